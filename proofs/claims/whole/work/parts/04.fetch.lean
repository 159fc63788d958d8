theorem f_Odds_reckonWays_0 : fx n_Odds_reckonWays 0 = some (.iconst 0, 1, []) := (congrArg (fun t => fxl t 0) e_0).trans rfl
theorem f_Odds_reckonWays_1 : fx n_Odds_reckonWays 1 = some (.istore_n 2, 2, []) := (congrArg (fun t => fxl t 1) e_0).trans rfl
theorem f_Odds_reckonWays_2 : fx n_Odds_reckonWays 2 = some (.iload_n 2, 3, []) := (congrArg (fun t => fxl t 2) e_0).trans rfl
theorem f_Odds_reckonWays_3 : fx n_Odds_reckonWays 3 = some (.aload_n 1, 4, []) := (congrArg (fun t => fxl t 3) e_0).trans rfl
theorem f_Odds_reckonWays_4 : fx n_Odds_reckonWays 4 = some (.getfield 27, 7, [2, 0]) := (congrArg (fun t => fxl t 4) e_0).trans rfl
theorem f_Odds_reckonWays_7 : fx n_Odds_reckonWays 7 = some (.if_icmp .ge 15, 10, [22]) := (congrArg (fun t => fxl t 7) e_0).trans rfl
theorem f_Odds_reckonWays_10 : fx n_Odds_reckonWays 10 = some (.aload_n 0, 11, []) := (congrArg (fun t => fxl t 10) e_0).trans rfl
theorem f_Odds_reckonWays_11 : fx n_Odds_reckonWays 11 = some (.aload_n 1, 12, []) := (congrArg (fun t => fxl t 11) e_0).trans rfl
theorem f_Odds_reckonWays_12 : fx n_Odds_reckonWays 12 = some (.iload_n 2, 13, []) := (congrArg (fun t => fxl t 12) e_0).trans rfl
theorem f_Odds_reckonWays_13 : fx n_Odds_reckonWays 13 = some (.invokevirtual 32, 16, [1, 2]) := (congrArg (fun t => fxl t 13) e_0).trans rfl
theorem f_Odds_reckonWays_16 : fx n_Odds_reckonWays 16 = some (.iinc 2 1, 19, []) := (congrArg (fun t => fxl t 16) e_0).trans rfl
theorem f_Odds_reckonWays_19 : fx n_Odds_reckonWays 19 = some (.goto (-17), 22, [2]) := (congrArg (fun t => fxl t 19) e_0).trans rfl
theorem f_Odds_reckonWays_22 : fx n_Odds_reckonWays 22 = some (.aload_n 1, 23, []) := (congrArg (fun t => fxl t 22) e_0).trans rfl
theorem f_Odds_reckonWays_23 : fx n_Odds_reckonWays 23 = some (.getfield 27, 26, [2, 0]) := (congrArg (fun t => fxl t 23) e_0).trans rfl
theorem f_Odds_reckonWays_26 : fx n_Odds_reckonWays 26 = some (.iconst 1, 27, []) := (congrArg (fun t => fxl t 26) e_0).trans rfl
theorem f_Odds_reckonWays_27 : fx n_Odds_reckonWays 27 = some (.isub, 28, []) := (congrArg (fun t => fxl t 27) e_0).trans rfl
theorem f_Odds_reckonWays_28 : fx n_Odds_reckonWays 28 = some (.istore_n 2, 29, []) := (congrArg (fun t => fxl t 28) e_0).trans rfl
theorem f_Odds_reckonWays_29 : fx n_Odds_reckonWays 29 = some (.iload_n 2, 30, []) := (congrArg (fun t => fxl t 29) e_0).trans rfl
theorem f_Odds_reckonWays_30 : fx n_Odds_reckonWays 30 = some (.ifCond .lt 49, 33, [79]) := (congrArg (fun t => fxl t 30) e_0).trans rfl
theorem f_Odds_reckonWays_33 : fx n_Odds_reckonWays 33 = some (.aload_n 1, 34, []) := (congrArg (fun t => fxl t 33) e_0).trans rfl
theorem f_Odds_reckonWays_34 : fx n_Odds_reckonWays 34 = some (.aload_n 1, 35, []) := (congrArg (fun t => fxl t 34) e_0).trans rfl
theorem f_Odds_reckonWays_35 : fx n_Odds_reckonWays 35 = some (.getfield 36, 38, [2, 7]) := (congrArg (fun t => fxl t 35) e_0).trans rfl
theorem f_Odds_reckonWays_38 : fx n_Odds_reckonWays 38 = some (.iload_n 2, 39, []) := (congrArg (fun t => fxl t 38) e_0).trans rfl
theorem f_Odds_reckonWays_39 : fx n_Odds_reckonWays 39 = some (.iaload, 40, []) := (congrArg (fun t => fxl t 39) e_0).trans rfl
theorem f_Odds_reckonWays_40 : fx n_Odds_reckonWays 40 = some (.invokevirtual 39, 43, [14, 1]) := (congrArg (fun t => fxl t 40) e_0).trans rfl
theorem f_Odds_reckonWays_43 : fx n_Odds_reckonWays 43 = some (.ifCond .eq 30, 46, [73]) := (congrArg (fun t => fxl t 43) e_0).trans rfl
theorem f_Odds_reckonWays_46 : fx n_Odds_reckonWays 46 = some (.aload_n 0, 47, []) := (congrArg (fun t => fxl t 46) e_0).trans rfl
theorem f_Odds_reckonWays_47 : fx n_Odds_reckonWays 47 = some (.aload_n 1, 48, []) := (congrArg (fun t => fxl t 47) e_0).trans rfl
theorem f_Odds_reckonWays_48 : fx n_Odds_reckonWays 48 = some (.getfield 43, 51, [2, 4]) := (congrArg (fun t => fxl t 48) e_0).trans rfl
theorem f_Odds_reckonWays_51 : fx n_Odds_reckonWays 51 = some (.iload_n 2, 52, []) := (congrArg (fun t => fxl t 51) e_0).trans rfl
theorem f_Odds_reckonWays_52 : fx n_Odds_reckonWays 52 = some (.iaload, 53, []) := (congrArg (fun t => fxl t 52) e_0).trans rfl
theorem f_Odds_reckonWays_53 : fx n_Odds_reckonWays 53 = some (.aload_n 0, 54, []) := (congrArg (fun t => fxl t 53) e_0).trans rfl
theorem f_Odds_reckonWays_54 : fx n_Odds_reckonWays 54 = some (.getfield 11, 57, [0, 0]) := (congrArg (fun t => fxl t 54) e_0).trans rfl
theorem f_Odds_reckonWays_57 : fx n_Odds_reckonWays 57 = some (.iload_n 2, 58, []) := (congrArg (fun t => fxl t 57) e_0).trans rfl
theorem f_Odds_reckonWays_58 : fx n_Odds_reckonWays 58 = some (.aaload, 59, []) := (congrArg (fun t => fxl t 58) e_0).trans rfl
theorem f_Odds_reckonWays_59 : fx n_Odds_reckonWays 59 = some (.aload_n 0, 60, []) := (congrArg (fun t => fxl t 59) e_0).trans rfl
theorem f_Odds_reckonWays_60 : fx n_Odds_reckonWays 60 = some (.getfield 11, 63, [0, 0]) := (congrArg (fun t => fxl t 60) e_0).trans rfl
theorem f_Odds_reckonWays_63 : fx n_Odds_reckonWays 63 = some (.aload_n 1, 64, []) := (congrArg (fun t => fxl t 63) e_0).trans rfl
theorem f_Odds_reckonWays_64 : fx n_Odds_reckonWays 64 = some (.getfield 36, 67, [2, 7]) := (congrArg (fun t => fxl t 64) e_0).trans rfl
theorem f_Odds_reckonWays_67 : fx n_Odds_reckonWays 67 = some (.iload_n 2, 68, []) := (congrArg (fun t => fxl t 67) e_0).trans rfl
theorem f_Odds_reckonWays_68 : fx n_Odds_reckonWays 68 = some (.iaload, 69, []) := (congrArg (fun t => fxl t 68) e_0).trans rfl
theorem f_Odds_reckonWays_69 : fx n_Odds_reckonWays 69 = some (.aaload, 70, []) := (congrArg (fun t => fxl t 69) e_0).trans rfl
theorem f_Odds_reckonWays_70 : fx n_Odds_reckonWays 70 = some (.invokevirtual 46, 73, [2, 3]) := (congrArg (fun t => fxl t 70) e_0).trans rfl
theorem f_Odds_reckonWays_73 : fx n_Odds_reckonWays 73 = some (.iinc 2 (-1), 76, []) := (congrArg (fun t => fxl t 73) e_0).trans rfl
theorem f_Odds_reckonWays_76 : fx n_Odds_reckonWays 76 = some (.goto (-47), 79, [29]) := (congrArg (fun t => fxl t 76) e_0).trans rfl
theorem f_Odds_reckonWays_79 : fx n_Odds_reckonWays 79 = some (.return_, 80, []) := (congrArg (fun t => fxl t 79) e_0).trans rfl
theorem f_Odds_startWays_0 : fx n_Odds_startWays 0 = some (.aload_n 1, 1, []) := (congrArg (fun t => fxl t 0) e_1).trans rfl
theorem f_Odds_startWays_1 : fx n_Odds_startWays 1 = some (.iload_n 2, 2, []) := (congrArg (fun t => fxl t 1) e_1).trans rfl
theorem f_Odds_startWays_2 : fx n_Odds_startWays 2 = some (.invokevirtual 50, 5, [21, 1]) := (congrArg (fun t => fxl t 2) e_1).trans rfl
theorem f_Odds_startWays_5 : fx n_Odds_startWays 5 = some (.ifCond .eq 7, 8, [12]) := (congrArg (fun t => fxl t 5) e_1).trans rfl
theorem f_Odds_startWays_8 : fx n_Odds_startWays 8 = some (.iconst 3, 9, []) := (congrArg (fun t => fxl t 8) e_1).trans rfl
theorem f_Odds_startWays_9 : fx n_Odds_startWays 9 = some (.goto 4, 12, [13]) := (congrArg (fun t => fxl t 9) e_1).trans rfl
theorem f_Odds_startWays_12 : fx n_Odds_startWays 12 = some (.iconst 0, 13, []) := (congrArg (fun t => fxl t 12) e_1).trans rfl
theorem f_Odds_startWays_13 : fx n_Odds_startWays 13 = some (.istore_n 3, 14, []) := (congrArg (fun t => fxl t 13) e_1).trans rfl
theorem f_Odds_startWays_14 : fx n_Odds_startWays 14 = some (.iconst 0, 15, []) := (congrArg (fun t => fxl t 14) e_1).trans rfl
theorem f_Odds_startWays_15 : fx n_Odds_startWays 15 = some (.istore 4, 17, []) := (congrArg (fun t => fxl t 15) e_1).trans rfl
theorem f_Odds_startWays_17 : fx n_Odds_startWays 17 = some (.iload 4, 19, []) := (congrArg (fun t => fxl t 17) e_1).trans rfl
theorem f_Odds_startWays_19 : fx n_Odds_startWays 19 = some (.bipush 85, 21, []) := (congrArg (fun t => fxl t 19) e_1).trans rfl
theorem f_Odds_startWays_21 : fx n_Odds_startWays 21 = some (.if_icmp .ge 45, 24, [66]) := (congrArg (fun t => fxl t 21) e_1).trans rfl
theorem f_Odds_startWays_24 : fx n_Odds_startWays 24 = some (.iload 4, 26, []) := (congrArg (fun t => fxl t 24) e_1).trans rfl
theorem f_Odds_startWays_26 : fx n_Odds_startWays 26 = some (.aload_n 1, 27, []) := (congrArg (fun t => fxl t 26) e_1).trans rfl
theorem f_Odds_startWays_27 : fx n_Odds_startWays 27 = some (.getfield 53, 30, [2, 5]) := (congrArg (fun t => fxl t 27) e_1).trans rfl
theorem f_Odds_startWays_30 : fx n_Odds_startWays 30 = some (.iload_n 2, 31, []) := (congrArg (fun t => fxl t 30) e_1).trans rfl
theorem f_Odds_startWays_31 : fx n_Odds_startWays 31 = some (.iaload, 32, []) := (congrArg (fun t => fxl t 31) e_1).trans rfl
theorem f_Odds_startWays_32 : fx n_Odds_startWays 32 = some (.isub, 33, []) := (congrArg (fun t => fxl t 32) e_1).trans rfl
theorem f_Odds_startWays_33 : fx n_Odds_startWays 33 = some (.istore 5, 35, []) := (congrArg (fun t => fxl t 33) e_1).trans rfl
theorem f_Odds_startWays_35 : fx n_Odds_startWays 35 = some (.aload_n 0, 36, []) := (congrArg (fun t => fxl t 35) e_1).trans rfl
theorem f_Odds_startWays_36 : fx n_Odds_startWays 36 = some (.getfield 11, 39, [0, 0]) := (congrArg (fun t => fxl t 36) e_1).trans rfl
theorem f_Odds_startWays_39 : fx n_Odds_startWays 39 = some (.iload_n 2, 40, []) := (congrArg (fun t => fxl t 39) e_1).trans rfl
theorem f_Odds_startWays_40 : fx n_Odds_startWays 40 = some (.aaload, 41, []) := (congrArg (fun t => fxl t 40) e_1).trans rfl
theorem f_Odds_startWays_41 : fx n_Odds_startWays 41 = some (.iload 4, 43, []) := (congrArg (fun t => fxl t 41) e_1).trans rfl
theorem f_Odds_startWays_43 : fx n_Odds_startWays 43 = some (.iload 5, 45, []) := (congrArg (fun t => fxl t 43) e_1).trans rfl
theorem f_Odds_startWays_45 : fx n_Odds_startWays 45 = some (.ifCond .lt 13, 48, [58]) := (congrArg (fun t => fxl t 45) e_1).trans rfl
theorem f_Odds_startWays_48 : fx n_Odds_startWays 48 = some (.iload 5, 50, []) := (congrArg (fun t => fxl t 48) e_1).trans rfl
theorem f_Odds_startWays_50 : fx n_Odds_startWays 50 = some (.iload_n 3, 51, []) := (congrArg (fun t => fxl t 50) e_1).trans rfl
theorem f_Odds_startWays_51 : fx n_Odds_startWays 51 = some (.if_icmp .gt 7, 54, [58]) := (congrArg (fun t => fxl t 51) e_1).trans rfl
theorem f_Odds_startWays_54 : fx n_Odds_startWays 54 = some (.iconst 1, 55, []) := (congrArg (fun t => fxl t 54) e_1).trans rfl
theorem f_Odds_startWays_55 : fx n_Odds_startWays 55 = some (.goto 4, 58, [59]) := (congrArg (fun t => fxl t 55) e_1).trans rfl
theorem f_Odds_startWays_58 : fx n_Odds_startWays 58 = some (.iconst 0, 59, []) := (congrArg (fun t => fxl t 58) e_1).trans rfl
theorem f_Odds_startWays_59 : fx n_Odds_startWays 59 = some (.iastore, 60, []) := (congrArg (fun t => fxl t 59) e_1).trans rfl
theorem f_Odds_startWays_60 : fx n_Odds_startWays 60 = some (.iinc 4 1, 63, []) := (congrArg (fun t => fxl t 60) e_1).trans rfl
theorem f_Odds_startWays_63 : fx n_Odds_startWays 63 = some (.goto (-46), 66, [17]) := (congrArg (fun t => fxl t 63) e_1).trans rfl
theorem f_Odds_startWays_66 : fx n_Odds_startWays 66 = some (.return_, 67, []) := (congrArg (fun t => fxl t 66) e_1).trans rfl
theorem f_Odds_joinWays_0 : fx n_Odds_joinWays 0 = some (.iconst 0, 1, []) := (congrArg (fun t => fxl t 0) e_2).trans rfl
theorem f_Odds_joinWays_1 : fx n_Odds_joinWays 1 = some (.istore 4, 3, []) := (congrArg (fun t => fxl t 1) e_2).trans rfl
theorem f_Odds_joinWays_3 : fx n_Odds_joinWays 3 = some (.iload 4, 5, []) := (congrArg (fun t => fxl t 3) e_2).trans rfl
theorem f_Odds_joinWays_5 : fx n_Odds_joinWays 5 = some (.bipush 85, 7, []) := (congrArg (fun t => fxl t 5) e_2).trans rfl
theorem f_Odds_joinWays_7 : fx n_Odds_joinWays 7 = some (.if_icmp .ge 17, 10, [24]) := (congrArg (fun t => fxl t 7) e_2).trans rfl
theorem f_Odds_joinWays_10 : fx n_Odds_joinWays 10 = some (.aload_n 0, 11, []) := (congrArg (fun t => fxl t 10) e_2).trans rfl
theorem f_Odds_joinWays_11 : fx n_Odds_joinWays 11 = some (.getfield 16, 14, [0, 1]) := (congrArg (fun t => fxl t 11) e_2).trans rfl
theorem f_Odds_joinWays_14 : fx n_Odds_joinWays 14 = some (.iload 4, 16, []) := (congrArg (fun t => fxl t 14) e_2).trans rfl
theorem f_Odds_joinWays_16 : fx n_Odds_joinWays 16 = some (.iconst 0, 17, []) := (congrArg (fun t => fxl t 16) e_2).trans rfl
theorem f_Odds_joinWays_17 : fx n_Odds_joinWays 17 = some (.iastore, 18, []) := (congrArg (fun t => fxl t 17) e_2).trans rfl
theorem f_Odds_joinWays_18 : fx n_Odds_joinWays 18 = some (.iinc 4 1, 21, []) := (congrArg (fun t => fxl t 18) e_2).trans rfl
theorem f_Odds_joinWays_21 : fx n_Odds_joinWays 21 = some (.goto (-18), 24, [3]) := (congrArg (fun t => fxl t 21) e_2).trans rfl
theorem f_Odds_joinWays_24 : fx n_Odds_joinWays 24 = some (.iconst 0, 25, []) := (congrArg (fun t => fxl t 24) e_2).trans rfl
theorem f_Odds_joinWays_25 : fx n_Odds_joinWays 25 = some (.istore 4, 27, []) := (congrArg (fun t => fxl t 25) e_2).trans rfl
theorem f_Odds_joinWays_27 : fx n_Odds_joinWays 27 = some (.iload 4, 29, []) := (congrArg (fun t => fxl t 27) e_2).trans rfl
theorem f_Odds_joinWays_29 : fx n_Odds_joinWays 29 = some (.bipush 85, 31, []) := (congrArg (fun t => fxl t 29) e_2).trans rfl
theorem f_Odds_joinWays_31 : fx n_Odds_joinWays 31 = some (.if_icmp .ge 31, 34, [62]) := (congrArg (fun t => fxl t 31) e_2).trans rfl
theorem f_Odds_joinWays_34 : fx n_Odds_joinWays 34 = some (.aload_n 2, 35, []) := (congrArg (fun t => fxl t 34) e_2).trans rfl
theorem f_Odds_joinWays_35 : fx n_Odds_joinWays 35 = some (.iload 4, 37, []) := (congrArg (fun t => fxl t 35) e_2).trans rfl
theorem f_Odds_joinWays_37 : fx n_Odds_joinWays 37 = some (.iaload, 38, []) := (congrArg (fun t => fxl t 37) e_2).trans rfl
theorem f_Odds_joinWays_38 : fx n_Odds_joinWays 38 = some (.ifCond .le 18, 41, [56]) := (congrArg (fun t => fxl t 38) e_2).trans rfl
theorem f_Odds_joinWays_41 : fx n_Odds_joinWays 41 = some (.aload_n 0, 42, []) := (congrArg (fun t => fxl t 41) e_2).trans rfl
theorem f_Odds_joinWays_42 : fx n_Odds_joinWays 42 = some (.aload_n 3, 43, []) := (congrArg (fun t => fxl t 42) e_2).trans rfl
theorem f_Odds_joinWays_43 : fx n_Odds_joinWays 43 = some (.iload_n 1, 44, []) := (congrArg (fun t => fxl t 43) e_2).trans rfl
theorem f_Odds_joinWays_44 : fx n_Odds_joinWays 44 = some (.iload 4, 46, []) := (congrArg (fun t => fxl t 44) e_2).trans rfl
theorem f_Odds_joinWays_46 : fx n_Odds_joinWays 46 = some (.invokestatic 56, 49, [80, 2]) := (congrArg (fun t => fxl t 46) e_2).trans rfl
theorem f_Odds_joinWays_49 : fx n_Odds_joinWays 49 = some (.aload_n 2, 50, []) := (congrArg (fun t => fxl t 49) e_2).trans rfl
theorem f_Odds_joinWays_50 : fx n_Odds_joinWays 50 = some (.iload 4, 52, []) := (congrArg (fun t => fxl t 50) e_2).trans rfl
theorem f_Odds_joinWays_52 : fx n_Odds_joinWays 52 = some (.iaload, 53, []) := (congrArg (fun t => fxl t 52) e_2).trans rfl
theorem f_Odds_joinWays_53 : fx n_Odds_joinWays 53 = some (.invokevirtual 60, 56, [3, 3]) := (congrArg (fun t => fxl t 53) e_2).trans rfl
theorem f_Odds_joinWays_56 : fx n_Odds_joinWays 56 = some (.iinc 4 1, 59, []) := (congrArg (fun t => fxl t 56) e_2).trans rfl
theorem f_Odds_joinWays_59 : fx n_Odds_joinWays 59 = some (.goto (-32), 62, [27]) := (congrArg (fun t => fxl t 59) e_2).trans rfl
theorem f_Odds_joinWays_62 : fx n_Odds_joinWays 62 = some (.aload_n 0, 63, []) := (congrArg (fun t => fxl t 62) e_2).trans rfl
theorem f_Odds_joinWays_63 : fx n_Odds_joinWays 63 = some (.getfield 16, 66, [0, 1]) := (congrArg (fun t => fxl t 63) e_2).trans rfl
theorem f_Odds_joinWays_66 : fx n_Odds_joinWays 66 = some (.iconst 0, 67, []) := (congrArg (fun t => fxl t 66) e_2).trans rfl
theorem f_Odds_joinWays_67 : fx n_Odds_joinWays 67 = some (.aload_n 3, 68, []) := (congrArg (fun t => fxl t 67) e_2).trans rfl
theorem f_Odds_joinWays_68 : fx n_Odds_joinWays 68 = some (.iconst 0, 69, []) := (congrArg (fun t => fxl t 68) e_2).trans rfl
theorem f_Odds_joinWays_69 : fx n_Odds_joinWays 69 = some (.bipush 85, 71, []) := (congrArg (fun t => fxl t 69) e_2).trans rfl
theorem f_Odds_joinWays_71 : fx n_Odds_joinWays 71 = some (.invokestatic 64, 74, [902, 5]) := (congrArg (fun t => fxl t 71) e_2).trans rfl
theorem f_Odds_joinWays_74 : fx n_Odds_joinWays 74 = some (.return_, 75, []) := (congrArg (fun t => fxl t 74) e_2).trans rfl
theorem f_Odds_addShifted_0 : fx n_Odds_addShifted 0 = some (.iload_n 2, 1, []) := (congrArg (fun t => fxl t 0) e_3).trans rfl
theorem f_Odds_addShifted_1 : fx n_Odds_addShifted 1 = some (.istore 4, 3, []) := (congrArg (fun t => fxl t 1) e_3).trans rfl
theorem f_Odds_addShifted_3 : fx n_Odds_addShifted 3 = some (.iload 4, 5, []) := (congrArg (fun t => fxl t 3) e_3).trans rfl
theorem f_Odds_addShifted_5 : fx n_Odds_addShifted 5 = some (.bipush 85, 7, []) := (congrArg (fun t => fxl t 5) e_3).trans rfl
theorem f_Odds_addShifted_7 : fx n_Odds_addShifted 7 = some (.if_icmp .ge 27, 10, [34]) := (congrArg (fun t => fxl t 7) e_3).trans rfl
theorem f_Odds_addShifted_10 : fx n_Odds_addShifted 10 = some (.aload_n 0, 11, []) := (congrArg (fun t => fxl t 10) e_3).trans rfl
theorem f_Odds_addShifted_11 : fx n_Odds_addShifted 11 = some (.getfield 16, 14, [0, 1]) := (congrArg (fun t => fxl t 11) e_3).trans rfl
theorem f_Odds_addShifted_14 : fx n_Odds_addShifted 14 = some (.iload 4, 16, []) := (congrArg (fun t => fxl t 14) e_3).trans rfl
theorem f_Odds_addShifted_16 : fx n_Odds_addShifted 16 = some (.dup2, 17, []) := (congrArg (fun t => fxl t 16) e_3).trans rfl
theorem f_Odds_addShifted_17 : fx n_Odds_addShifted 17 = some (.iaload, 18, []) := (congrArg (fun t => fxl t 17) e_3).trans rfl
theorem f_Odds_addShifted_18 : fx n_Odds_addShifted 18 = some (.iload_n 3, 19, []) := (congrArg (fun t => fxl t 18) e_3).trans rfl
theorem f_Odds_addShifted_19 : fx n_Odds_addShifted 19 = some (.aload_n 1, 20, []) := (congrArg (fun t => fxl t 19) e_3).trans rfl
theorem f_Odds_addShifted_20 : fx n_Odds_addShifted 20 = some (.iload 4, 22, []) := (congrArg (fun t => fxl t 20) e_3).trans rfl
theorem f_Odds_addShifted_22 : fx n_Odds_addShifted 22 = some (.iload_n 2, 23, []) := (congrArg (fun t => fxl t 22) e_3).trans rfl
theorem f_Odds_addShifted_23 : fx n_Odds_addShifted 23 = some (.isub, 24, []) := (congrArg (fun t => fxl t 23) e_3).trans rfl
theorem f_Odds_addShifted_24 : fx n_Odds_addShifted 24 = some (.iaload, 25, []) := (congrArg (fun t => fxl t 24) e_3).trans rfl
theorem f_Odds_addShifted_25 : fx n_Odds_addShifted 25 = some (.imul, 26, []) := (congrArg (fun t => fxl t 25) e_3).trans rfl
theorem f_Odds_addShifted_26 : fx n_Odds_addShifted 26 = some (.iadd, 27, []) := (congrArg (fun t => fxl t 26) e_3).trans rfl
theorem f_Odds_addShifted_27 : fx n_Odds_addShifted 27 = some (.iastore, 28, []) := (congrArg (fun t => fxl t 27) e_3).trans rfl
theorem f_Odds_addShifted_28 : fx n_Odds_addShifted 28 = some (.iinc 4 1, 31, []) := (congrArg (fun t => fxl t 28) e_3).trans rfl
theorem f_Odds_addShifted_31 : fx n_Odds_addShifted 31 = some (.goto (-28), 34, [3]) := (congrArg (fun t => fxl t 31) e_3).trans rfl
theorem f_Odds_addShifted_34 : fx n_Odds_addShifted 34 = some (.return_, 35, []) := (congrArg (fun t => fxl t 34) e_3).trans rfl
theorem f_Odds_reckonParts_0 : fx n_Odds_reckonParts 0 = some (.aload_n 0, 1, []) := (congrArg (fun t => fxl t 0) e_4).trans rfl
theorem f_Odds_reckonParts_1 : fx n_Odds_reckonParts 1 = some (.iconst 0, 2, []) := (congrArg (fun t => fxl t 1) e_4).trans rfl
theorem f_Odds_reckonParts_2 : fx n_Odds_reckonParts 2 = some (.putfield 20, 5, [0, 2]) := (congrArg (fun t => fxl t 2) e_4).trans rfl
theorem f_Odds_reckonParts_5 : fx n_Odds_reckonParts 5 = some (.aload_n 0, 6, []) := (congrArg (fun t => fxl t 5) e_4).trans rfl
theorem f_Odds_reckonParts_6 : fx n_Odds_reckonParts 6 = some (.iconst 0, 7, []) := (congrArg (fun t => fxl t 6) e_4).trans rfl
theorem f_Odds_reckonParts_7 : fx n_Odds_reckonParts 7 = some (.putfield 24, 10, [0, 3]) := (congrArg (fun t => fxl t 7) e_4).trans rfl
theorem f_Odds_reckonParts_10 : fx n_Odds_reckonParts 10 = some (.iconst 0, 11, []) := (congrArg (fun t => fxl t 10) e_4).trans rfl
theorem f_Odds_reckonParts_11 : fx n_Odds_reckonParts 11 = some (.istore_n 3, 12, []) := (congrArg (fun t => fxl t 11) e_4).trans rfl
theorem f_Odds_reckonParts_12 : fx n_Odds_reckonParts 12 = some (.iload_n 3, 13, []) := (congrArg (fun t => fxl t 12) e_4).trans rfl
theorem f_Odds_reckonParts_13 : fx n_Odds_reckonParts 13 = some (.bipush 85, 15, []) := (congrArg (fun t => fxl t 13) e_4).trans rfl
theorem f_Odds_reckonParts_15 : fx n_Odds_reckonParts 15 = some (.if_icmp .ge 62, 18, [77]) := (congrArg (fun t => fxl t 15) e_4).trans rfl
theorem f_Odds_reckonParts_18 : fx n_Odds_reckonParts 18 = some (.aload_n 0, 19, []) := (congrArg (fun t => fxl t 18) e_4).trans rfl
theorem f_Odds_reckonParts_19 : fx n_Odds_reckonParts 19 = some (.dup, 20, []) := (congrArg (fun t => fxl t 19) e_4).trans rfl
theorem f_Odds_reckonParts_20 : fx n_Odds_reckonParts 20 = some (.getfield 24, 23, [0, 3]) := (congrArg (fun t => fxl t 20) e_4).trans rfl
theorem f_Odds_reckonParts_23 : fx n_Odds_reckonParts 23 = some (.aload_n 0, 24, []) := (congrArg (fun t => fxl t 23) e_4).trans rfl
theorem f_Odds_reckonParts_24 : fx n_Odds_reckonParts 24 = some (.getfield 11, 27, [0, 0]) := (congrArg (fun t => fxl t 24) e_4).trans rfl
theorem f_Odds_reckonParts_27 : fx n_Odds_reckonParts 27 = some (.iload_n 2, 28, []) := (congrArg (fun t => fxl t 27) e_4).trans rfl
theorem f_Odds_reckonParts_28 : fx n_Odds_reckonParts 28 = some (.aaload, 29, []) := (congrArg (fun t => fxl t 28) e_4).trans rfl
theorem f_Odds_reckonParts_29 : fx n_Odds_reckonParts 29 = some (.iload_n 3, 30, []) := (congrArg (fun t => fxl t 29) e_4).trans rfl
theorem f_Odds_reckonParts_30 : fx n_Odds_reckonParts 30 = some (.iaload, 31, []) := (congrArg (fun t => fxl t 30) e_4).trans rfl
theorem f_Odds_reckonParts_31 : fx n_Odds_reckonParts 31 = some (.iadd, 32, []) := (congrArg (fun t => fxl t 31) e_4).trans rfl
theorem f_Odds_reckonParts_32 : fx n_Odds_reckonParts 32 = some (.putfield 24, 35, [0, 3]) := (congrArg (fun t => fxl t 32) e_4).trans rfl
theorem f_Odds_reckonParts_35 : fx n_Odds_reckonParts 35 = some (.aload_n 1, 36, []) := (congrArg (fun t => fxl t 35) e_4).trans rfl
theorem f_Odds_reckonParts_36 : fx n_Odds_reckonParts 36 = some (.getfield 43, 39, [2, 4]) := (congrArg (fun t => fxl t 36) e_4).trans rfl
theorem f_Odds_reckonParts_39 : fx n_Odds_reckonParts 39 = some (.iload_n 2, 40, []) := (congrArg (fun t => fxl t 39) e_4).trans rfl
theorem f_Odds_reckonParts_40 : fx n_Odds_reckonParts 40 = some (.iaload, 41, []) := (congrArg (fun t => fxl t 40) e_4).trans rfl
theorem f_Odds_reckonParts_41 : fx n_Odds_reckonParts 41 = some (.iload_n 3, 42, []) := (congrArg (fun t => fxl t 41) e_4).trans rfl
theorem f_Odds_reckonParts_42 : fx n_Odds_reckonParts 42 = some (.aload_n 1, 43, []) := (congrArg (fun t => fxl t 42) e_4).trans rfl
theorem f_Odds_reckonParts_43 : fx n_Odds_reckonParts 43 = some (.getfield 70, 46, [2, 6]) := (congrArg (fun t => fxl t 43) e_4).trans rfl
theorem f_Odds_reckonParts_46 : fx n_Odds_reckonParts 46 = some (.iload_n 2, 47, []) := (congrArg (fun t => fxl t 46) e_4).trans rfl
theorem f_Odds_reckonParts_47 : fx n_Odds_reckonParts 47 = some (.iaload, 48, []) := (congrArg (fun t => fxl t 47) e_4).trans rfl
theorem f_Odds_reckonParts_48 : fx n_Odds_reckonParts 48 = some (.invokestatic 73, 51, [81, 3]) := (congrArg (fun t => fxl t 48) e_4).trans rfl
theorem f_Odds_reckonParts_51 : fx n_Odds_reckonParts 51 = some (.ifCond .eq 20, 54, [71]) := (congrArg (fun t => fxl t 51) e_4).trans rfl
theorem f_Odds_reckonParts_54 : fx n_Odds_reckonParts 54 = some (.aload_n 0, 55, []) := (congrArg (fun t => fxl t 54) e_4).trans rfl
theorem f_Odds_reckonParts_55 : fx n_Odds_reckonParts 55 = some (.dup, 56, []) := (congrArg (fun t => fxl t 55) e_4).trans rfl
theorem f_Odds_reckonParts_56 : fx n_Odds_reckonParts 56 = some (.getfield 20, 59, [0, 2]) := (congrArg (fun t => fxl t 56) e_4).trans rfl
theorem f_Odds_reckonParts_59 : fx n_Odds_reckonParts 59 = some (.aload_n 0, 60, []) := (congrArg (fun t => fxl t 59) e_4).trans rfl
theorem f_Odds_reckonParts_60 : fx n_Odds_reckonParts 60 = some (.getfield 11, 63, [0, 0]) := (congrArg (fun t => fxl t 60) e_4).trans rfl
theorem f_Odds_reckonParts_63 : fx n_Odds_reckonParts 63 = some (.iload_n 2, 64, []) := (congrArg (fun t => fxl t 63) e_4).trans rfl
theorem f_Odds_reckonParts_64 : fx n_Odds_reckonParts 64 = some (.aaload, 65, []) := (congrArg (fun t => fxl t 64) e_4).trans rfl
theorem f_Odds_reckonParts_65 : fx n_Odds_reckonParts 65 = some (.iload_n 3, 66, []) := (congrArg (fun t => fxl t 65) e_4).trans rfl
theorem f_Odds_reckonParts_66 : fx n_Odds_reckonParts 66 = some (.iaload, 67, []) := (congrArg (fun t => fxl t 66) e_4).trans rfl
theorem f_Odds_reckonParts_67 : fx n_Odds_reckonParts 67 = some (.iadd, 68, []) := (congrArg (fun t => fxl t 67) e_4).trans rfl
theorem f_Odds_reckonParts_68 : fx n_Odds_reckonParts 68 = some (.putfield 20, 71, [0, 2]) := (congrArg (fun t => fxl t 68) e_4).trans rfl
theorem f_Odds_reckonParts_71 : fx n_Odds_reckonParts 71 = some (.iinc 3 1, 74, []) := (congrArg (fun t => fxl t 71) e_4).trans rfl
theorem f_Odds_reckonParts_74 : fx n_Odds_reckonParts 74 = some (.goto (-62), 77, [12]) := (congrArg (fun t => fxl t 74) e_4).trans rfl
theorem f_Odds_reckonParts_77 : fx n_Odds_reckonParts 77 = some (.aload_n 0, 78, []) := (congrArg (fun t => fxl t 77) e_4).trans rfl
theorem f_Odds_reckonParts_78 : fx n_Odds_reckonParts 78 = some (.getfield 24, 81, [0, 3]) := (congrArg (fun t => fxl t 78) e_4).trans rfl
theorem f_Odds_reckonParts_81 : fx n_Odds_reckonParts 81 = some (.iconst 1, 82, []) := (congrArg (fun t => fxl t 81) e_4).trans rfl
theorem f_Odds_reckonParts_82 : fx n_Odds_reckonParts 82 = some (.if_icmp .le 35, 85, [117]) := (congrArg (fun t => fxl t 82) e_4).trans rfl
theorem f_Odds_reckonParts_85 : fx n_Odds_reckonParts 85 = some (.aload_n 0, 86, []) := (congrArg (fun t => fxl t 85) e_4).trans rfl
theorem f_Odds_reckonParts_86 : fx n_Odds_reckonParts 86 = some (.getfield 20, 89, [0, 2]) := (congrArg (fun t => fxl t 86) e_4).trans rfl
theorem f_Odds_reckonParts_89 : fx n_Odds_reckonParts 89 = some (.iconst 2, 90, []) := (congrArg (fun t => fxl t 89) e_4).trans rfl
theorem f_Odds_reckonParts_90 : fx n_Odds_reckonParts 90 = some (.irem, 91, []) := (congrArg (fun t => fxl t 90) e_4).trans rfl
theorem f_Odds_reckonParts_91 : fx n_Odds_reckonParts 91 = some (.ifCond .ne 26, 94, [117]) := (congrArg (fun t => fxl t 91) e_4).trans rfl
theorem f_Odds_reckonParts_94 : fx n_Odds_reckonParts 94 = some (.aload_n 0, 95, []) := (congrArg (fun t => fxl t 94) e_4).trans rfl
theorem f_Odds_reckonParts_95 : fx n_Odds_reckonParts 95 = some (.dup, 96, []) := (congrArg (fun t => fxl t 95) e_4).trans rfl
theorem f_Odds_reckonParts_96 : fx n_Odds_reckonParts 96 = some (.getfield 20, 99, [0, 2]) := (congrArg (fun t => fxl t 96) e_4).trans rfl
theorem f_Odds_reckonParts_99 : fx n_Odds_reckonParts 99 = some (.iconst 2, 100, []) := (congrArg (fun t => fxl t 99) e_4).trans rfl
theorem f_Odds_reckonParts_100 : fx n_Odds_reckonParts 100 = some (.idiv, 101, []) := (congrArg (fun t => fxl t 100) e_4).trans rfl
theorem f_Odds_reckonParts_101 : fx n_Odds_reckonParts 101 = some (.putfield 20, 104, [0, 2]) := (congrArg (fun t => fxl t 101) e_4).trans rfl
theorem f_Odds_reckonParts_104 : fx n_Odds_reckonParts 104 = some (.aload_n 0, 105, []) := (congrArg (fun t => fxl t 104) e_4).trans rfl
theorem f_Odds_reckonParts_105 : fx n_Odds_reckonParts 105 = some (.dup, 106, []) := (congrArg (fun t => fxl t 105) e_4).trans rfl
theorem f_Odds_reckonParts_106 : fx n_Odds_reckonParts 106 = some (.getfield 24, 109, [0, 3]) := (congrArg (fun t => fxl t 106) e_4).trans rfl
theorem f_Odds_reckonParts_109 : fx n_Odds_reckonParts 109 = some (.iconst 2, 110, []) := (congrArg (fun t => fxl t 109) e_4).trans rfl
theorem f_Odds_reckonParts_110 : fx n_Odds_reckonParts 110 = some (.idiv, 111, []) := (congrArg (fun t => fxl t 110) e_4).trans rfl
theorem f_Odds_reckonParts_111 : fx n_Odds_reckonParts 111 = some (.putfield 24, 114, [0, 3]) := (congrArg (fun t => fxl t 111) e_4).trans rfl
theorem f_Odds_reckonParts_114 : fx n_Odds_reckonParts 114 = some (.goto (-37), 117, [77]) := (congrArg (fun t => fxl t 114) e_4).trans rfl
theorem f_Odds_reckonParts_117 : fx n_Odds_reckonParts 117 = some (.return_, 118, []) := (congrArg (fun t => fxl t 117) e_4).trans rfl
theorem f_Page_firstFault_0 : fx n_Page_firstFault 0 = some (.iconst (-1), 1, []) := (congrArg (fun t => fxl t 0) e_5).trans rfl
theorem f_Page_firstFault_1 : fx n_Page_firstFault 1 = some (.istore_n 1, 2, []) := (congrArg (fun t => fxl t 1) e_5).trans rfl
theorem f_Page_firstFault_2 : fx n_Page_firstFault 2 = some (.iconst 0, 3, []) := (congrArg (fun t => fxl t 2) e_5).trans rfl
theorem f_Page_firstFault_3 : fx n_Page_firstFault 3 = some (.istore_n 2, 4, []) := (congrArg (fun t => fxl t 3) e_5).trans rfl
theorem f_Page_firstFault_4 : fx n_Page_firstFault 4 = some (.iload_n 2, 5, []) := (congrArg (fun t => fxl t 4) e_5).trans rfl
theorem f_Page_firstFault_5 : fx n_Page_firstFault 5 = some (.aload_n 0, 6, []) := (congrArg (fun t => fxl t 5) e_5).trans rfl
theorem f_Page_firstFault_6 : fx n_Page_firstFault 6 = some (.getfield 15, 9, [1, 1]) := (congrArg (fun t => fxl t 6) e_5).trans rfl
theorem f_Page_firstFault_9 : fx n_Page_firstFault 9 = some (.if_icmp .ge 33, 12, [42]) := (congrArg (fun t => fxl t 9) e_5).trans rfl
theorem f_Page_firstFault_12 : fx n_Page_firstFault 12 = some (.aload_n 0, 13, []) := (congrArg (fun t => fxl t 12) e_5).trans rfl
theorem f_Page_firstFault_13 : fx n_Page_firstFault 13 = some (.iload_n 2, 14, []) := (congrArg (fun t => fxl t 13) e_5).trans rfl
theorem f_Page_firstFault_14 : fx n_Page_firstFault 14 = some (.iload_n 1, 15, []) := (congrArg (fun t => fxl t 14) e_5).trans rfl
theorem f_Page_firstFault_15 : fx n_Page_firstFault 15 = some (.invokevirtual 19, 18, [8, 2]) := (congrArg (fun t => fxl t 15) e_5).trans rfl
theorem f_Page_firstFault_18 : fx n_Page_firstFault 18 = some (.ifCond .ne 5, 21, [23]) := (congrArg (fun t => fxl t 18) e_5).trans rfl
theorem f_Page_firstFault_21 : fx n_Page_firstFault 21 = some (.iload_n 2, 22, []) := (congrArg (fun t => fxl t 21) e_5).trans rfl
theorem f_Page_firstFault_22 : fx n_Page_firstFault 22 = some (.ireturn, 23, []) := (congrArg (fun t => fxl t 22) e_5).trans rfl
theorem f_Page_firstFault_23 : fx n_Page_firstFault 23 = some (.aload_n 0, 24, []) := (congrArg (fun t => fxl t 23) e_5).trans rfl
theorem f_Page_firstFault_24 : fx n_Page_firstFault 24 = some (.getfield 9, 27, [1, 0]) := (congrArg (fun t => fxl t 24) e_5).trans rfl
theorem f_Page_firstFault_27 : fx n_Page_firstFault 27 = some (.iload_n 2, 28, []) := (congrArg (fun t => fxl t 27) e_5).trans rfl
theorem f_Page_firstFault_28 : fx n_Page_firstFault 28 = some (.iaload, 29, []) := (congrArg (fun t => fxl t 28) e_5).trans rfl
theorem f_Page_firstFault_29 : fx n_Page_firstFault 29 = some (.bipush 59, 31, []) := (congrArg (fun t => fxl t 29) e_5).trans rfl
theorem f_Page_firstFault_31 : fx n_Page_firstFault 31 = some (.if_icmp .ne 5, 34, [36]) := (congrArg (fun t => fxl t 31) e_5).trans rfl
theorem f_Page_firstFault_34 : fx n_Page_firstFault 34 = some (.iload_n 2, 35, []) := (congrArg (fun t => fxl t 34) e_5).trans rfl
theorem f_Page_firstFault_35 : fx n_Page_firstFault 35 = some (.istore_n 1, 36, []) := (congrArg (fun t => fxl t 35) e_5).trans rfl
theorem f_Page_firstFault_36 : fx n_Page_firstFault 36 = some (.iinc 2 1, 39, []) := (congrArg (fun t => fxl t 36) e_5).trans rfl
theorem f_Page_firstFault_39 : fx n_Page_firstFault 39 = some (.goto (-35), 42, [4]) := (congrArg (fun t => fxl t 39) e_5).trans rfl
theorem f_Page_firstFault_42 : fx n_Page_firstFault 42 = some (.aload_n 0, 43, []) := (congrArg (fun t => fxl t 42) e_5).trans rfl
theorem f_Page_firstFault_43 : fx n_Page_firstFault 43 = some (.getfield 15, 46, [1, 1]) := (congrArg (fun t => fxl t 43) e_5).trans rfl
theorem f_Page_firstFault_46 : fx n_Page_firstFault 46 = some (.ireturn, 47, []) := (congrArg (fun t => fxl t 46) e_5).trans rfl
theorem f_Page_reachesTold_0 : fx n_Page_reachesTold 0 = some (.aload_n 0, 1, []) := (congrArg (fun t => fxl t 0) e_6).trans rfl
theorem f_Page_reachesTold_1 : fx n_Page_reachesTold 1 = some (.invokevirtual 23, 4, [7, 0]) := (congrArg (fun t => fxl t 1) e_6).trans rfl
theorem f_Page_reachesTold_4 : fx n_Page_reachesTold 4 = some (.istore_n 1, 5, []) := (congrArg (fun t => fxl t 4) e_6).trans rfl
theorem f_Page_reachesTold_5 : fx n_Page_reachesTold 5 = some (.iload_n 1, 6, []) := (congrArg (fun t => fxl t 5) e_6).trans rfl
theorem f_Page_reachesTold_6 : fx n_Page_reachesTold 6 = some (.iconst (-1), 7, []) := (congrArg (fun t => fxl t 6) e_6).trans rfl
theorem f_Page_reachesTold_7 : fx n_Page_reachesTold 7 = some (.if_icmp .eq 14, 10, [21]) := (congrArg (fun t => fxl t 7) e_6).trans rfl
theorem f_Page_reachesTold_10 : fx n_Page_reachesTold 10 = some (.aload_n 0, 11, []) := (congrArg (fun t => fxl t 10) e_6).trans rfl
theorem f_Page_reachesTold_11 : fx n_Page_reachesTold 11 = some (.invokevirtual 27, 14, [5, 0]) := (congrArg (fun t => fxl t 11) e_6).trans rfl
theorem f_Page_reachesTold_14 : fx n_Page_reachesTold 14 = some (.aload_n 0, 15, []) := (congrArg (fun t => fxl t 14) e_6).trans rfl
theorem f_Page_reachesTold_15 : fx n_Page_reachesTold 15 = some (.getfield 15, 18, [1, 1]) := (congrArg (fun t => fxl t 15) e_6).trans rfl
theorem f_Page_reachesTold_18 : fx n_Page_reachesTold 18 = some (.if_icmp .ge 5, 21, [23]) := (congrArg (fun t => fxl t 18) e_6).trans rfl
theorem f_Page_reachesTold_21 : fx n_Page_reachesTold 21 = some (.iconst 0, 22, []) := (congrArg (fun t => fxl t 21) e_6).trans rfl
theorem f_Page_reachesTold_22 : fx n_Page_reachesTold 22 = some (.ireturn, 23, []) := (congrArg (fun t => fxl t 22) e_6).trans rfl
theorem f_Page_reachesTold_23 : fx n_Page_reachesTold 23 = some (.aload_n 0, 24, []) := (congrArg (fun t => fxl t 23) e_6).trans rfl
theorem f_Page_reachesTold_24 : fx n_Page_reachesTold 24 = some (.getfield 15, 27, [1, 1]) := (congrArg (fun t => fxl t 24) e_6).trans rfl
theorem f_Page_reachesTold_27 : fx n_Page_reachesTold 27 = some (.iload_n 1, 28, []) := (congrArg (fun t => fxl t 27) e_6).trans rfl
theorem f_Page_reachesTold_28 : fx n_Page_reachesTold 28 = some (.isub, 29, []) := (congrArg (fun t => fxl t 28) e_6).trans rfl
theorem f_Page_reachesTold_29 : fx n_Page_reachesTold 29 = some (.iconst 2, 30, []) := (congrArg (fun t => fxl t 29) e_6).trans rfl
theorem f_Page_reachesTold_30 : fx n_Page_reachesTold 30 = some (.irem, 31, []) := (congrArg (fun t => fxl t 30) e_6).trans rfl
theorem f_Page_reachesTold_31 : fx n_Page_reachesTold 31 = some (.ifCond .ne 10, 34, [41]) := (congrArg (fun t => fxl t 31) e_6).trans rfl
theorem f_Page_reachesTold_34 : fx n_Page_reachesTold 34 = some (.iload_n 1, 35, []) := (congrArg (fun t => fxl t 34) e_6).trans rfl
theorem f_Page_reachesTold_35 : fx n_Page_reachesTold 35 = some (.invokestatic 30, 38, [9, 1]) := (congrArg (fun t => fxl t 35) e_6).trans rfl
theorem f_Page_reachesTold_38 : fx n_Page_reachesTold 38 = some (.goto 4, 41, [42]) := (congrArg (fun t => fxl t 38) e_6).trans rfl
theorem f_Page_reachesTold_41 : fx n_Page_reachesTold 41 = some (.iconst 0, 42, []) := (congrArg (fun t => fxl t 41) e_6).trans rfl
theorem f_Page_reachesTold_42 : fx n_Page_reachesTold 42 = some (.ireturn, 43, []) := (congrArg (fun t => fxl t 42) e_6).trans rfl
theorem f_Page_semicolonPlace_0 : fx n_Page_semicolonPlace 0 = some (.iconst 0, 1, []) := (congrArg (fun t => fxl t 0) e_7).trans rfl
theorem f_Page_semicolonPlace_1 : fx n_Page_semicolonPlace 1 = some (.istore_n 1, 2, []) := (congrArg (fun t => fxl t 1) e_7).trans rfl
theorem f_Page_semicolonPlace_2 : fx n_Page_semicolonPlace 2 = some (.iload_n 1, 3, []) := (congrArg (fun t => fxl t 2) e_7).trans rfl
theorem f_Page_semicolonPlace_3 : fx n_Page_semicolonPlace 3 = some (.aload_n 0, 4, []) := (congrArg (fun t => fxl t 3) e_7).trans rfl
theorem f_Page_semicolonPlace_4 : fx n_Page_semicolonPlace 4 = some (.getfield 15, 7, [1, 1]) := (congrArg (fun t => fxl t 4) e_7).trans rfl
theorem f_Page_semicolonPlace_7 : fx n_Page_semicolonPlace 7 = some (.if_icmp .ge 22, 10, [29]) := (congrArg (fun t => fxl t 7) e_7).trans rfl
theorem f_Page_semicolonPlace_10 : fx n_Page_semicolonPlace 10 = some (.aload_n 0, 11, []) := (congrArg (fun t => fxl t 10) e_7).trans rfl
theorem f_Page_semicolonPlace_11 : fx n_Page_semicolonPlace 11 = some (.getfield 9, 14, [1, 0]) := (congrArg (fun t => fxl t 11) e_7).trans rfl
theorem f_Page_semicolonPlace_14 : fx n_Page_semicolonPlace 14 = some (.iload_n 1, 15, []) := (congrArg (fun t => fxl t 14) e_7).trans rfl
theorem f_Page_semicolonPlace_15 : fx n_Page_semicolonPlace 15 = some (.iaload, 16, []) := (congrArg (fun t => fxl t 15) e_7).trans rfl
theorem f_Page_semicolonPlace_16 : fx n_Page_semicolonPlace 16 = some (.bipush 59, 18, []) := (congrArg (fun t => fxl t 16) e_7).trans rfl
theorem f_Page_semicolonPlace_18 : fx n_Page_semicolonPlace 18 = some (.if_icmp .ne 5, 21, [23]) := (congrArg (fun t => fxl t 18) e_7).trans rfl
theorem f_Page_semicolonPlace_21 : fx n_Page_semicolonPlace 21 = some (.iload_n 1, 22, []) := (congrArg (fun t => fxl t 21) e_7).trans rfl
theorem f_Page_semicolonPlace_22 : fx n_Page_semicolonPlace 22 = some (.ireturn, 23, []) := (congrArg (fun t => fxl t 22) e_7).trans rfl
theorem f_Page_semicolonPlace_23 : fx n_Page_semicolonPlace 23 = some (.iinc 1 1, 26, []) := (congrArg (fun t => fxl t 23) e_7).trans rfl
theorem f_Page_semicolonPlace_26 : fx n_Page_semicolonPlace 26 = some (.goto (-24), 29, [2]) := (congrArg (fun t => fxl t 26) e_7).trans rfl
theorem f_Page_semicolonPlace_29 : fx n_Page_semicolonPlace 29 = some (.iconst (-1), 30, []) := (congrArg (fun t => fxl t 29) e_7).trans rfl
theorem f_Page_semicolonPlace_30 : fx n_Page_semicolonPlace 30 = some (.ireturn, 31, []) := (congrArg (fun t => fxl t 30) e_7).trans rfl
theorem f_Page_fits_0 : fx n_Page_fits 0 = some (.iload_n 2, 1, []) := (congrArg (fun t => fxl t 0) e_8).trans rfl
theorem f_Page_fits_1 : fx n_Page_fits 1 = some (.iconst (-1), 2, []) := (congrArg (fun t => fxl t 1) e_8).trans rfl
theorem f_Page_fits_2 : fx n_Page_fits 2 = some (.if_icmp .ne 19, 5, [21]) := (congrArg (fun t => fxl t 2) e_8).trans rfl
theorem f_Page_fits_5 : fx n_Page_fits 5 = some (.iload_n 1, 6, []) := (congrArg (fun t => fxl t 5) e_8).trans rfl
theorem f_Page_fits_6 : fx n_Page_fits 6 = some (.iconst 5, 7, []) := (congrArg (fun t => fxl t 6) e_8).trans rfl
theorem f_Page_fits_7 : fx n_Page_fits 7 = some (.idiv, 8, []) := (congrArg (fun t => fxl t 7) e_8).trans rfl
theorem f_Page_fits_8 : fx n_Page_fits 8 = some (.iload_n 1, 9, []) := (congrArg (fun t => fxl t 8) e_8).trans rfl
theorem f_Page_fits_9 : fx n_Page_fits 9 = some (.iconst 5, 10, []) := (congrArg (fun t => fxl t 9) e_8).trans rfl
theorem f_Page_fits_10 : fx n_Page_fits 10 = some (.irem, 11, []) := (congrArg (fun t => fxl t 10) e_8).trans rfl
theorem f_Page_fits_11 : fx n_Page_fits 11 = some (.aload_n 0, 12, []) := (congrArg (fun t => fxl t 11) e_8).trans rfl
theorem f_Page_fits_12 : fx n_Page_fits 12 = some (.getfield 9, 15, [1, 0]) := (congrArg (fun t => fxl t 12) e_8).trans rfl
theorem f_Page_fits_15 : fx n_Page_fits 15 = some (.iload_n 1, 16, []) := (congrArg (fun t => fxl t 15) e_8).trans rfl
theorem f_Page_fits_16 : fx n_Page_fits 16 = some (.iaload, 17, []) := (congrArg (fun t => fxl t 16) e_8).trans rfl
theorem f_Page_fits_17 : fx n_Page_fits 17 = some (.invokestatic 34, 20, [10, 3]) := (congrArg (fun t => fxl t 17) e_8).trans rfl
theorem f_Page_fits_20 : fx n_Page_fits 20 = some (.ireturn, 21, []) := (congrArg (fun t => fxl t 20) e_8).trans rfl
theorem f_Page_fits_21 : fx n_Page_fits 21 = some (.iload_n 1, 22, []) := (congrArg (fun t => fxl t 21) e_8).trans rfl
theorem f_Page_fits_22 : fx n_Page_fits 22 = some (.iload_n 2, 23, []) := (congrArg (fun t => fxl t 22) e_8).trans rfl
theorem f_Page_fits_23 : fx n_Page_fits 23 = some (.isub, 24, []) := (congrArg (fun t => fxl t 23) e_8).trans rfl
theorem f_Page_fits_24 : fx n_Page_fits 24 = some (.iconst 1, 25, []) := (congrArg (fun t => fxl t 24) e_8).trans rfl
theorem f_Page_fits_25 : fx n_Page_fits 25 = some (.isub, 26, []) := (congrArg (fun t => fxl t 25) e_8).trans rfl
theorem f_Page_fits_26 : fx n_Page_fits 26 = some (.iload_n 2, 27, []) := (congrArg (fun t => fxl t 26) e_8).trans rfl
theorem f_Page_fits_27 : fx n_Page_fits 27 = some (.invokestatic 30, 30, [9, 1]) := (congrArg (fun t => fxl t 27) e_8).trans rfl
theorem f_Page_fits_30 : fx n_Page_fits 30 = some (.aload_n 0, 31, []) := (congrArg (fun t => fxl t 30) e_8).trans rfl
theorem f_Page_fits_31 : fx n_Page_fits 31 = some (.getfield 9, 34, [1, 0]) := (congrArg (fun t => fxl t 31) e_8).trans rfl
theorem f_Page_fits_34 : fx n_Page_fits 34 = some (.iload_n 1, 35, []) := (congrArg (fun t => fxl t 34) e_8).trans rfl
theorem f_Page_fits_35 : fx n_Page_fits 35 = some (.iaload, 36, []) := (congrArg (fun t => fxl t 35) e_8).trans rfl
theorem f_Page_fits_36 : fx n_Page_fits 36 = some (.invokestatic 38, 39, [12, 3]) := (congrArg (fun t => fxl t 36) e_8).trans rfl
theorem f_Page_fits_39 : fx n_Page_fits 39 = some (.ireturn, 40, []) := (congrArg (fun t => fxl t 39) e_8).trans rfl
theorem f_Page_reachesAheadOf_0 : fx n_Page_reachesAheadOf 0 = some (.iload_n 0, 1, []) := (congrArg (fun t => fxl t 0) e_9).trans rfl
theorem f_Page_reachesAheadOf_1 : fx n_Page_reachesAheadOf 1 = some (.iconst 1, 2, []) := (congrArg (fun t => fxl t 1) e_9).trans rfl
theorem f_Page_reachesAheadOf_2 : fx n_Page_reachesAheadOf 2 = some (.iadd, 3, []) := (congrArg (fun t => fxl t 2) e_9).trans rfl
theorem f_Page_reachesAheadOf_3 : fx n_Page_reachesAheadOf 3 = some (.iconst 5, 4, []) := (congrArg (fun t => fxl t 3) e_9).trans rfl
theorem f_Page_reachesAheadOf_4 : fx n_Page_reachesAheadOf 4 = some (.idiv, 5, []) := (congrArg (fun t => fxl t 4) e_9).trans rfl
theorem f_Page_reachesAheadOf_5 : fx n_Page_reachesAheadOf 5 = some (.ireturn, 6, []) := (congrArg (fun t => fxl t 5) e_9).trans rfl
theorem f_Page_fitsReach_0 : fx n_Page_fitsReach 0 = some (.iload_n 1, 1, []) := (congrArg (fun t => fxl t 0) e_10).trans rfl
theorem f_Page_fitsReach_1 : fx n_Page_fitsReach 1 = some (.tableswitch 107 0 3 #[31, 45, 63, 81], 32, [108, 32, 46, 64, 82]) := (congrArg (fun t => fxl t 1) e_10).trans rfl
theorem f_Page_fitsReach_32 : fx n_Page_fitsReach 32 = some (.iload_n 2, 33, []) := (congrArg (fun t => fxl t 32) e_10).trans rfl
theorem f_Page_fitsReach_33 : fx n_Page_fitsReach 33 = some (.invokestatic 41, 36, [13, 1]) := (congrArg (fun t => fxl t 33) e_10).trans rfl
theorem f_Page_fitsReach_36 : fx n_Page_fitsReach 36 = some (.iconst (-1), 37, []) := (congrArg (fun t => fxl t 36) e_10).trans rfl
theorem f_Page_fitsReach_37 : fx n_Page_fitsReach 37 = some (.if_icmp .eq 7, 40, [44]) := (congrArg (fun t => fxl t 37) e_10).trans rfl
theorem f_Page_fitsReach_40 : fx n_Page_fitsReach 40 = some (.iconst 1, 41, []) := (congrArg (fun t => fxl t 40) e_10).trans rfl
theorem f_Page_fitsReach_41 : fx n_Page_fitsReach 41 = some (.goto 4, 44, [45]) := (congrArg (fun t => fxl t 41) e_10).trans rfl
theorem f_Page_fitsReach_44 : fx n_Page_fitsReach 44 = some (.iconst 0, 45, []) := (congrArg (fun t => fxl t 44) e_10).trans rfl
theorem f_Page_fitsReach_45 : fx n_Page_fitsReach 45 = some (.ireturn, 46, []) := (congrArg (fun t => fxl t 45) e_10).trans rfl
theorem f_Page_fitsReach_46 : fx n_Page_fitsReach 46 = some (.iload_n 2, 47, []) := (congrArg (fun t => fxl t 46) e_10).trans rfl
theorem f_Page_fitsReach_47 : fx n_Page_fitsReach 47 = some (.bipush 49, 49, []) := (congrArg (fun t => fxl t 47) e_10).trans rfl
theorem f_Page_fitsReach_49 : fx n_Page_fitsReach 49 = some (.if_icmp .lt 13, 52, [62]) := (congrArg (fun t => fxl t 49) e_10).trans rfl
theorem f_Page_fitsReach_52 : fx n_Page_fitsReach 52 = some (.iload_n 2, 53, []) := (congrArg (fun t => fxl t 52) e_10).trans rfl
theorem f_Page_fitsReach_53 : fx n_Page_fitsReach 53 = some (.bipush 57, 55, []) := (congrArg (fun t => fxl t 53) e_10).trans rfl
theorem f_Page_fitsReach_55 : fx n_Page_fitsReach 55 = some (.if_icmp .gt 7, 58, [62]) := (congrArg (fun t => fxl t 55) e_10).trans rfl
theorem f_Page_fitsReach_58 : fx n_Page_fitsReach 58 = some (.iconst 1, 59, []) := (congrArg (fun t => fxl t 58) e_10).trans rfl
theorem f_Page_fitsReach_59 : fx n_Page_fitsReach 59 = some (.goto 4, 62, [63]) := (congrArg (fun t => fxl t 59) e_10).trans rfl
theorem f_Page_fitsReach_62 : fx n_Page_fitsReach 62 = some (.iconst 0, 63, []) := (congrArg (fun t => fxl t 62) e_10).trans rfl
theorem f_Page_fitsReach_63 : fx n_Page_fitsReach 63 = some (.ireturn, 64, []) := (congrArg (fun t => fxl t 63) e_10).trans rfl
theorem f_Page_fitsReach_64 : fx n_Page_fitsReach 64 = some (.iload_n 2, 65, []) := (congrArg (fun t => fxl t 64) e_10).trans rfl
theorem f_Page_fitsReach_65 : fx n_Page_fitsReach 65 = some (.bipush 48, 67, []) := (congrArg (fun t => fxl t 65) e_10).trans rfl
theorem f_Page_fitsReach_67 : fx n_Page_fitsReach 67 = some (.if_icmp .lt 13, 70, [80]) := (congrArg (fun t => fxl t 67) e_10).trans rfl
theorem f_Page_fitsReach_70 : fx n_Page_fitsReach 70 = some (.iload_n 2, 71, []) := (congrArg (fun t => fxl t 70) e_10).trans rfl
theorem f_Page_fitsReach_71 : fx n_Page_fitsReach 71 = some (.bipush 57, 73, []) := (congrArg (fun t => fxl t 71) e_10).trans rfl
theorem f_Page_fitsReach_73 : fx n_Page_fitsReach 73 = some (.if_icmp .gt 7, 76, [80]) := (congrArg (fun t => fxl t 73) e_10).trans rfl
theorem f_Page_fitsReach_76 : fx n_Page_fitsReach 76 = some (.iconst 1, 77, []) := (congrArg (fun t => fxl t 76) e_10).trans rfl
theorem f_Page_fitsReach_77 : fx n_Page_fitsReach 77 = some (.goto 4, 80, [81]) := (congrArg (fun t => fxl t 77) e_10).trans rfl
theorem f_Page_fitsReach_80 : fx n_Page_fitsReach 80 = some (.iconst 0, 81, []) := (congrArg (fun t => fxl t 80) e_10).trans rfl
theorem f_Page_fitsReach_81 : fx n_Page_fitsReach 81 = some (.ireturn, 82, []) := (congrArg (fun t => fxl t 81) e_10).trans rfl
theorem f_Page_fitsReach_82 : fx n_Page_fitsReach 82 = some (.iload_n 2, 83, []) := (congrArg (fun t => fxl t 82) e_10).trans rfl
theorem f_Page_fitsReach_83 : fx n_Page_fitsReach 83 = some (.bipush 45, 85, []) := (congrArg (fun t => fxl t 83) e_10).trans rfl
theorem f_Page_fitsReach_85 : fx n_Page_fitsReach 85 = some (.if_icmp .eq 17, 88, [102]) := (congrArg (fun t => fxl t 85) e_10).trans rfl
theorem f_Page_fitsReach_88 : fx n_Page_fitsReach 88 = some (.iload_n 2, 89, []) := (congrArg (fun t => fxl t 88) e_10).trans rfl
theorem f_Page_fitsReach_89 : fx n_Page_fitsReach 89 = some (.bipush 48, 91, []) := (congrArg (fun t => fxl t 89) e_10).trans rfl
theorem f_Page_fitsReach_91 : fx n_Page_fitsReach 91 = some (.if_icmp .lt 15, 94, [106]) := (congrArg (fun t => fxl t 91) e_10).trans rfl
theorem f_Page_fitsReach_94 : fx n_Page_fitsReach 94 = some (.iload_n 2, 95, []) := (congrArg (fun t => fxl t 94) e_10).trans rfl
theorem f_Page_fitsReach_95 : fx n_Page_fitsReach 95 = some (.bipush 48, 97, []) := (congrArg (fun t => fxl t 95) e_10).trans rfl
theorem f_Page_fitsReach_97 : fx n_Page_fitsReach 97 = some (.iload_n 0, 98, []) := (congrArg (fun t => fxl t 97) e_10).trans rfl
theorem f_Page_fitsReach_98 : fx n_Page_fitsReach 98 = some (.iadd, 99, []) := (congrArg (fun t => fxl t 98) e_10).trans rfl
theorem f_Page_fitsReach_99 : fx n_Page_fitsReach 99 = some (.if_icmp .ge 7, 102, [106]) := (congrArg (fun t => fxl t 99) e_10).trans rfl
theorem f_Page_fitsReach_102 : fx n_Page_fitsReach 102 = some (.iconst 1, 103, []) := (congrArg (fun t => fxl t 102) e_10).trans rfl
theorem f_Page_fitsReach_103 : fx n_Page_fitsReach 103 = some (.goto 4, 106, [107]) := (congrArg (fun t => fxl t 103) e_10).trans rfl
theorem f_Page_fitsReach_106 : fx n_Page_fitsReach 106 = some (.iconst 0, 107, []) := (congrArg (fun t => fxl t 106) e_10).trans rfl
theorem f_Page_fitsReach_107 : fx n_Page_fitsReach 107 = some (.ireturn, 108, []) := (congrArg (fun t => fxl t 107) e_10).trans rfl
theorem f_Page_fitsReach_108 : fx n_Page_fitsReach 108 = some (.iload_n 0, 109, []) := (congrArg (fun t => fxl t 108) e_10).trans rfl
theorem f_Page_fitsReach_109 : fx n_Page_fitsReach 109 = some (.iconst 1, 110, []) := (congrArg (fun t => fxl t 109) e_10).trans rfl
theorem f_Page_fitsReach_110 : fx n_Page_fitsReach 110 = some (.iadd, 111, []) := (congrArg (fun t => fxl t 110) e_10).trans rfl
theorem f_Page_fitsReach_111 : fx n_Page_fitsReach 111 = some (.iload_n 2, 112, []) := (congrArg (fun t => fxl t 111) e_10).trans rfl
theorem f_Page_fitsReach_112 : fx n_Page_fitsReach 112 = some (.invokestatic 44, 115, [11, 2]) := (congrArg (fun t => fxl t 112) e_10).trans rfl
theorem f_Page_fitsReach_115 : fx n_Page_fitsReach 115 = some (.ireturn, 116, []) := (congrArg (fun t => fxl t 115) e_10).trans rfl
theorem f_Page_endsReach_0 : fx n_Page_endsReach 0 = some (.iload_n 1, 1, []) := (congrArg (fun t => fxl t 0) e_11).trans rfl
theorem f_Page_endsReach_1 : fx n_Page_endsReach 1 = some (.bipush 44, 3, []) := (congrArg (fun t => fxl t 1) e_11).trans rfl
theorem f_Page_endsReach_3 : fx n_Page_endsReach 3 = some (.if_icmp .ne 15, 6, [18]) := (congrArg (fun t => fxl t 3) e_11).trans rfl
theorem f_Page_endsReach_6 : fx n_Page_endsReach 6 = some (.iload_n 0, 7, []) := (congrArg (fun t => fxl t 6) e_11).trans rfl
theorem f_Page_endsReach_7 : fx n_Page_endsReach 7 = some (.bipush 7, 9, []) := (congrArg (fun t => fxl t 7) e_11).trans rfl
theorem f_Page_endsReach_9 : fx n_Page_endsReach 9 = some (.if_icmp .ge 7, 12, [16]) := (congrArg (fun t => fxl t 9) e_11).trans rfl
theorem f_Page_endsReach_12 : fx n_Page_endsReach 12 = some (.iconst 1, 13, []) := (congrArg (fun t => fxl t 12) e_11).trans rfl
theorem f_Page_endsReach_13 : fx n_Page_endsReach 13 = some (.goto 4, 16, [17]) := (congrArg (fun t => fxl t 13) e_11).trans rfl
theorem f_Page_endsReach_16 : fx n_Page_endsReach 16 = some (.iconst 0, 17, []) := (congrArg (fun t => fxl t 16) e_11).trans rfl
theorem f_Page_endsReach_17 : fx n_Page_endsReach 17 = some (.ireturn, 18, []) := (congrArg (fun t => fxl t 17) e_11).trans rfl
theorem f_Page_endsReach_18 : fx n_Page_endsReach 18 = some (.iload_n 1, 19, []) := (congrArg (fun t => fxl t 18) e_11).trans rfl
theorem f_Page_endsReach_19 : fx n_Page_endsReach 19 = some (.bipush 59, 21, []) := (congrArg (fun t => fxl t 19) e_11).trans rfl
theorem f_Page_endsReach_21 : fx n_Page_endsReach 21 = some (.if_icmp .ne 12, 24, [33]) := (congrArg (fun t => fxl t 21) e_11).trans rfl
theorem f_Page_endsReach_24 : fx n_Page_endsReach 24 = some (.iload_n 0, 25, []) := (congrArg (fun t => fxl t 24) e_11).trans rfl
theorem f_Page_endsReach_25 : fx n_Page_endsReach 25 = some (.iconst 2, 26, []) := (congrArg (fun t => fxl t 25) e_11).trans rfl
theorem f_Page_endsReach_26 : fx n_Page_endsReach 26 = some (.if_icmp .lt 7, 29, [33]) := (congrArg (fun t => fxl t 26) e_11).trans rfl
theorem f_Page_endsReach_29 : fx n_Page_endsReach 29 = some (.iconst 1, 30, []) := (congrArg (fun t => fxl t 29) e_11).trans rfl
theorem f_Page_endsReach_30 : fx n_Page_endsReach 30 = some (.goto 4, 33, [34]) := (congrArg (fun t => fxl t 30) e_11).trans rfl
theorem f_Page_endsReach_33 : fx n_Page_endsReach 33 = some (.iconst 0, 34, []) := (congrArg (fun t => fxl t 33) e_11).trans rfl
theorem f_Page_endsReach_34 : fx n_Page_endsReach 34 = some (.ireturn, 35, []) := (congrArg (fun t => fxl t 34) e_11).trans rfl
theorem f_Page_fitsGoverness_0 : fx n_Page_fitsGoverness 0 = some (.iload_n 0, 1, []) := (congrArg (fun t => fxl t 0) e_12).trans rfl
theorem f_Page_fitsGoverness_1 : fx n_Page_fitsGoverness 1 = some (.iconst 2, 2, []) := (congrArg (fun t => fxl t 1) e_12).trans rfl
theorem f_Page_fitsGoverness_2 : fx n_Page_fitsGoverness 2 = some (.irem, 3, []) := (congrArg (fun t => fxl t 2) e_12).trans rfl
theorem f_Page_fitsGoverness_3 : fx n_Page_fitsGoverness 3 = some (.ifCond .ne 23, 6, [26]) := (congrArg (fun t => fxl t 3) e_12).trans rfl
theorem f_Page_fitsGoverness_6 : fx n_Page_fitsGoverness 6 = some (.iload_n 2, 7, []) := (congrArg (fun t => fxl t 6) e_12).trans rfl
theorem f_Page_fitsGoverness_7 : fx n_Page_fitsGoverness 7 = some (.bipush 48, 9, []) := (congrArg (fun t => fxl t 7) e_12).trans rfl
theorem f_Page_fitsGoverness_9 : fx n_Page_fitsGoverness 9 = some (.if_icmp .lt 15, 12, [24]) := (congrArg (fun t => fxl t 9) e_12).trans rfl
theorem f_Page_fitsGoverness_12 : fx n_Page_fitsGoverness 12 = some (.iload_n 2, 13, []) := (congrArg (fun t => fxl t 12) e_12).trans rfl
theorem f_Page_fitsGoverness_13 : fx n_Page_fitsGoverness 13 = some (.bipush 48, 15, []) := (congrArg (fun t => fxl t 13) e_12).trans rfl
theorem f_Page_fitsGoverness_15 : fx n_Page_fitsGoverness 15 = some (.iload_n 1, 16, []) := (congrArg (fun t => fxl t 15) e_12).trans rfl
theorem f_Page_fitsGoverness_16 : fx n_Page_fitsGoverness 16 = some (.iadd, 17, []) := (congrArg (fun t => fxl t 16) e_12).trans rfl
theorem f_Page_fitsGoverness_17 : fx n_Page_fitsGoverness 17 = some (.if_icmp .ge 7, 20, [24]) := (congrArg (fun t => fxl t 17) e_12).trans rfl
theorem f_Page_fitsGoverness_20 : fx n_Page_fitsGoverness 20 = some (.iconst 1, 21, []) := (congrArg (fun t => fxl t 20) e_12).trans rfl
theorem f_Page_fitsGoverness_21 : fx n_Page_fitsGoverness 21 = some (.goto 4, 24, [25]) := (congrArg (fun t => fxl t 21) e_12).trans rfl
theorem f_Page_fitsGoverness_24 : fx n_Page_fitsGoverness 24 = some (.iconst 0, 25, []) := (congrArg (fun t => fxl t 24) e_12).trans rfl
theorem f_Page_fitsGoverness_25 : fx n_Page_fitsGoverness 25 = some (.ireturn, 26, []) := (congrArg (fun t => fxl t 25) e_12).trans rfl
theorem f_Page_fitsGoverness_26 : fx n_Page_fitsGoverness 26 = some (.iload_n 2, 27, []) := (congrArg (fun t => fxl t 26) e_12).trans rfl
theorem f_Page_fitsGoverness_27 : fx n_Page_fitsGoverness 27 = some (.bipush 44, 29, []) := (congrArg (fun t => fxl t 27) e_12).trans rfl
theorem f_Page_fitsGoverness_29 : fx n_Page_fitsGoverness 29 = some (.if_icmp .ne 16, 32, [45]) := (congrArg (fun t => fxl t 29) e_12).trans rfl
theorem f_Page_fitsGoverness_32 : fx n_Page_fitsGoverness 32 = some (.iload_n 0, 33, []) := (congrArg (fun t => fxl t 32) e_12).trans rfl
theorem f_Page_fitsGoverness_33 : fx n_Page_fitsGoverness 33 = some (.iconst 2, 34, []) := (congrArg (fun t => fxl t 33) e_12).trans rfl
theorem f_Page_fitsGoverness_34 : fx n_Page_fitsGoverness 34 = some (.idiv, 35, []) := (congrArg (fun t => fxl t 34) e_12).trans rfl
theorem f_Page_fitsGoverness_35 : fx n_Page_fitsGoverness 35 = some (.iconst 1, 36, []) := (congrArg (fun t => fxl t 35) e_12).trans rfl
theorem f_Page_fitsGoverness_36 : fx n_Page_fitsGoverness 36 = some (.iadd, 37, []) := (congrArg (fun t => fxl t 36) e_12).trans rfl
theorem f_Page_fitsGoverness_37 : fx n_Page_fitsGoverness 37 = some (.iconst 3, 38, []) := (congrArg (fun t => fxl t 37) e_12).trans rfl
theorem f_Page_fitsGoverness_38 : fx n_Page_fitsGoverness 38 = some (.if_icmp .ge 7, 41, [45]) := (congrArg (fun t => fxl t 38) e_12).trans rfl
theorem f_Page_fitsGoverness_41 : fx n_Page_fitsGoverness 41 = some (.iconst 1, 42, []) := (congrArg (fun t => fxl t 41) e_12).trans rfl
theorem f_Page_fitsGoverness_42 : fx n_Page_fitsGoverness 42 = some (.goto 4, 45, [46]) := (congrArg (fun t => fxl t 42) e_12).trans rfl
theorem f_Page_fitsGoverness_45 : fx n_Page_fitsGoverness 45 = some (.iconst 0, 46, []) := (congrArg (fun t => fxl t 45) e_12).trans rfl
theorem f_Page_fitsGoverness_46 : fx n_Page_fitsGoverness 46 = some (.ireturn, 47, []) := (congrArg (fun t => fxl t 46) e_12).trans rfl
theorem f_Page_kindTold_0 : fx n_Page_kindTold 0 = some (.iconst 0, 1, []) := (congrArg (fun t => fxl t 0) e_13).trans rfl
theorem f_Page_kindTold_1 : fx n_Page_kindTold 1 = some (.istore_n 1, 2, []) := (congrArg (fun t => fxl t 1) e_13).trans rfl
theorem f_Page_kindTold_2 : fx n_Page_kindTold 2 = some (.iload_n 1, 3, []) := (congrArg (fun t => fxl t 2) e_13).trans rfl
theorem f_Page_kindTold_3 : fx n_Page_kindTold 3 = some (.ldc 47, 5, []) := (congrArg (fun t => fxl t 3) e_13).trans rfl
theorem f_Page_kindTold_5 : fx n_Page_kindTold 5 = some (.invokevirtual 49, 8, [903, 0]) := (congrArg (fun t => fxl t 5) e_13).trans rfl
theorem f_Page_kindTold_8 : fx n_Page_kindTold 8 = some (.if_icmp .ge 21, 11, [29]) := (congrArg (fun t => fxl t 8) e_13).trans rfl
theorem f_Page_kindTold_11 : fx n_Page_kindTold 11 = some (.ldc 47, 13, []) := (congrArg (fun t => fxl t 11) e_13).trans rfl
theorem f_Page_kindTold_13 : fx n_Page_kindTold 13 = some (.iload_n 1, 14, []) := (congrArg (fun t => fxl t 13) e_13).trans rfl
theorem f_Page_kindTold_14 : fx n_Page_kindTold 14 = some (.invokevirtual 54, 17, [904, 1]) := (congrArg (fun t => fxl t 14) e_13).trans rfl
theorem f_Page_kindTold_17 : fx n_Page_kindTold 17 = some (.iload_n 0, 18, []) := (congrArg (fun t => fxl t 17) e_13).trans rfl
theorem f_Page_kindTold_18 : fx n_Page_kindTold 18 = some (.if_icmp .ne 5, 21, [23]) := (congrArg (fun t => fxl t 18) e_13).trans rfl
theorem f_Page_kindTold_21 : fx n_Page_kindTold 21 = some (.iload_n 1, 22, []) := (congrArg (fun t => fxl t 21) e_13).trans rfl
theorem f_Page_kindTold_22 : fx n_Page_kindTold 22 = some (.ireturn, 23, []) := (congrArg (fun t => fxl t 22) e_13).trans rfl
theorem f_Page_kindTold_23 : fx n_Page_kindTold 23 = some (.iinc 1 1, 26, []) := (congrArg (fun t => fxl t 23) e_13).trans rfl
theorem f_Page_kindTold_26 : fx n_Page_kindTold 26 = some (.goto (-24), 29, [2]) := (congrArg (fun t => fxl t 26) e_13).trans rfl
theorem f_Page_kindTold_29 : fx n_Page_kindTold 29 = some (.iconst (-1), 30, []) := (congrArg (fun t => fxl t 29) e_13).trans rfl
theorem f_Page_kindTold_30 : fx n_Page_kindTold 30 = some (.ireturn, 31, []) := (congrArg (fun t => fxl t 30) e_13).trans rfl
theorem f_River_hasReach_0 : fx n_River_hasReach 0 = some (.iload_n 1, 1, []) := (congrArg (fun t => fxl t 0) e_14).trans rfl
theorem f_River_hasReach_1 : fx n_River_hasReach 1 = some (.ifCond .lt 15, 4, [16]) := (congrArg (fun t => fxl t 1) e_14).trans rfl
theorem f_River_hasReach_4 : fx n_River_hasReach 4 = some (.iload_n 1, 5, []) := (congrArg (fun t => fxl t 4) e_14).trans rfl
theorem f_River_hasReach_5 : fx n_River_hasReach 5 = some (.aload_n 0, 6, []) := (congrArg (fun t => fxl t 5) e_14).trans rfl
theorem f_River_hasReach_6 : fx n_River_hasReach 6 = some (.getfield 9, 9, [2, 0]) := (congrArg (fun t => fxl t 6) e_14).trans rfl
theorem f_River_hasReach_9 : fx n_River_hasReach 9 = some (.if_icmp .ge 7, 12, [16]) := (congrArg (fun t => fxl t 9) e_14).trans rfl
theorem f_River_hasReach_12 : fx n_River_hasReach 12 = some (.iconst 1, 13, []) := (congrArg (fun t => fxl t 12) e_14).trans rfl
theorem f_River_hasReach_13 : fx n_River_hasReach 13 = some (.goto 4, 16, [17]) := (congrArg (fun t => fxl t 13) e_14).trans rfl
theorem f_River_hasReach_16 : fx n_River_hasReach 16 = some (.iconst 0, 17, []) := (congrArg (fun t => fxl t 16) e_14).trans rfl
theorem f_River_hasReach_17 : fx n_River_hasReach 17 = some (.ireturn, 18, []) := (congrArg (fun t => fxl t 17) e_14).trans rfl
theorem f_River_hasGoverness_0 : fx n_River_hasGoverness 0 = some (.iload_n 1, 1, []) := (congrArg (fun t => fxl t 0) e_15).trans rfl
theorem f_River_hasGoverness_1 : fx n_River_hasGoverness 1 = some (.ifCond .lt 15, 4, [16]) := (congrArg (fun t => fxl t 1) e_15).trans rfl
theorem f_River_hasGoverness_4 : fx n_River_hasGoverness 4 = some (.iload_n 1, 5, []) := (congrArg (fun t => fxl t 4) e_15).trans rfl
theorem f_River_hasGoverness_5 : fx n_River_hasGoverness 5 = some (.aload_n 0, 6, []) := (congrArg (fun t => fxl t 5) e_15).trans rfl
theorem f_River_hasGoverness_6 : fx n_River_hasGoverness 6 = some (.getfield 15, 9, [2, 1]) := (congrArg (fun t => fxl t 6) e_15).trans rfl
theorem f_River_hasGoverness_9 : fx n_River_hasGoverness 9 = some (.if_icmp .ge 7, 12, [16]) := (congrArg (fun t => fxl t 9) e_15).trans rfl
theorem f_River_hasGoverness_12 : fx n_River_hasGoverness 12 = some (.iconst 1, 13, []) := (congrArg (fun t => fxl t 12) e_15).trans rfl
theorem f_River_hasGoverness_13 : fx n_River_hasGoverness 13 = some (.goto 4, 16, [17]) := (congrArg (fun t => fxl t 13) e_15).trans rfl
theorem f_River_hasGoverness_16 : fx n_River_hasGoverness 16 = some (.iconst 0, 17, []) := (congrArg (fun t => fxl t 16) e_15).trans rfl
theorem f_River_hasGoverness_17 : fx n_River_hasGoverness 17 = some (.ireturn, 18, []) := (congrArg (fun t => fxl t 17) e_15).trans rfl
theorem f_River_readFrom_0 : fx n_River_readFrom 0 = some (.aload_n 0, 1, []) := (congrArg (fun t => fxl t 0) e_16).trans rfl
theorem f_River_readFrom_1 : fx n_River_readFrom 1 = some (.iload_n 2, 2, []) := (congrArg (fun t => fxl t 1) e_16).trans rfl
theorem f_River_readFrom_2 : fx n_River_readFrom 2 = some (.bipush 7, 4, []) := (congrArg (fun t => fxl t 2) e_16).trans rfl
theorem f_River_readFrom_4 : fx n_River_readFrom 4 = some (.invokestatic 43, 7, [900, 2]) := (congrArg (fun t => fxl t 4) e_16).trans rfl
theorem f_River_readFrom_7 : fx n_River_readFrom 7 = some (.putfield 9, 10, [2, 0]) := (congrArg (fun t => fxl t 7) e_16).trans rfl
theorem f_River_readFrom_10 : fx n_River_readFrom 10 = some (.aload_n 0, 11, []) := (congrArg (fun t => fxl t 10) e_16).trans rfl
theorem f_River_readFrom_11 : fx n_River_readFrom 11 = some (.iconst 0, 12, []) := (congrArg (fun t => fxl t 11) e_16).trans rfl
theorem f_River_readFrom_12 : fx n_River_readFrom 12 = some (.putfield 18, 15, [2, 2]) := (congrArg (fun t => fxl t 12) e_16).trans rfl
theorem f_River_readFrom_15 : fx n_River_readFrom 15 = some (.aload_n 0, 16, []) := (congrArg (fun t => fxl t 15) e_16).trans rfl
theorem f_River_readFrom_16 : fx n_River_readFrom 16 = some (.iconst 0, 17, []) := (congrArg (fun t => fxl t 16) e_16).trans rfl
theorem f_River_readFrom_17 : fx n_River_readFrom 17 = some (.putfield 21, 20, [2, 3]) := (congrArg (fun t => fxl t 17) e_16).trans rfl
theorem f_River_readFrom_20 : fx n_River_readFrom 20 = some (.iconst 0, 21, []) := (congrArg (fun t => fxl t 20) e_16).trans rfl
theorem f_River_readFrom_21 : fx n_River_readFrom 21 = some (.istore_n 3, 22, []) := (congrArg (fun t => fxl t 21) e_16).trans rfl
theorem f_River_readFrom_22 : fx n_River_readFrom 22 = some (.iload_n 3, 23, []) := (congrArg (fun t => fxl t 22) e_16).trans rfl
theorem f_River_readFrom_23 : fx n_River_readFrom 23 = some (.aload_n 0, 24, []) := (congrArg (fun t => fxl t 23) e_16).trans rfl
theorem f_River_readFrom_24 : fx n_River_readFrom 24 = some (.getfield 9, 27, [2, 0]) := (congrArg (fun t => fxl t 24) e_16).trans rfl
theorem f_River_readFrom_27 : fx n_River_readFrom 27 = some (.if_icmp .ge 106, 30, [133]) := (congrArg (fun t => fxl t 27) e_16).trans rfl
theorem f_River_readFrom_30 : fx n_River_readFrom 30 = some (.iload_n 3, 31, []) := (congrArg (fun t => fxl t 30) e_16).trans rfl
theorem f_River_readFrom_31 : fx n_River_readFrom 31 = some (.iconst 5, 32, []) := (congrArg (fun t => fxl t 31) e_16).trans rfl
theorem f_River_readFrom_32 : fx n_River_readFrom 32 = some (.imul, 33, []) := (congrArg (fun t => fxl t 32) e_16).trans rfl
theorem f_River_readFrom_33 : fx n_River_readFrom 33 = some (.istore 4, 35, []) := (congrArg (fun t => fxl t 33) e_16).trans rfl
theorem f_River_readFrom_35 : fx n_River_readFrom 35 = some (.aload_n 0, 36, []) := (congrArg (fun t => fxl t 35) e_16).trans rfl
theorem f_River_readFrom_36 : fx n_River_readFrom 36 = some (.getfield 24, 39, [2, 4]) := (congrArg (fun t => fxl t 36) e_16).trans rfl
theorem f_River_readFrom_39 : fx n_River_readFrom 39 = some (.iload_n 3, 40, []) := (congrArg (fun t => fxl t 39) e_16).trans rfl
theorem f_River_readFrom_40 : fx n_River_readFrom 40 = some (.aload_n 1, 41, []) := (congrArg (fun t => fxl t 40) e_16).trans rfl
theorem f_River_readFrom_41 : fx n_River_readFrom 41 = some (.getfield 49, 44, [1, 0]) := (congrArg (fun t => fxl t 41) e_16).trans rfl
theorem f_River_readFrom_44 : fx n_River_readFrom 44 = some (.iload 4, 46, []) := (congrArg (fun t => fxl t 44) e_16).trans rfl
theorem f_River_readFrom_46 : fx n_River_readFrom 46 = some (.iaload, 47, []) := (congrArg (fun t => fxl t 46) e_16).trans rfl
theorem f_River_readFrom_47 : fx n_River_readFrom 47 = some (.invokestatic 54, 50, [13, 1]) := (congrArg (fun t => fxl t 47) e_16).trans rfl
theorem f_River_readFrom_50 : fx n_River_readFrom 50 = some (.iconst 0, 51, []) := (congrArg (fun t => fxl t 50) e_16).trans rfl
theorem f_River_readFrom_51 : fx n_River_readFrom 51 = some (.invokestatic 58, 54, [901, 2]) := (congrArg (fun t => fxl t 51) e_16).trans rfl
theorem f_River_readFrom_54 : fx n_River_readFrom 54 = some (.iastore, 55, []) := (congrArg (fun t => fxl t 54) e_16).trans rfl
theorem f_River_readFrom_55 : fx n_River_readFrom 55 = some (.aload_n 0, 56, []) := (congrArg (fun t => fxl t 55) e_16).trans rfl
theorem f_River_readFrom_56 : fx n_River_readFrom 56 = some (.getfield 28, 59, [2, 5]) := (congrArg (fun t => fxl t 56) e_16).trans rfl
theorem f_River_readFrom_59 : fx n_River_readFrom 59 = some (.iload_n 3, 60, []) := (congrArg (fun t => fxl t 59) e_16).trans rfl
theorem f_River_readFrom_60 : fx n_River_readFrom 60 = some (.aload_n 1, 61, []) := (congrArg (fun t => fxl t 60) e_16).trans rfl
theorem f_River_readFrom_61 : fx n_River_readFrom 61 = some (.getfield 49, 64, [1, 0]) := (congrArg (fun t => fxl t 61) e_16).trans rfl
theorem f_River_readFrom_64 : fx n_River_readFrom 64 = some (.iload 4, 66, []) := (congrArg (fun t => fxl t 64) e_16).trans rfl
theorem f_River_readFrom_66 : fx n_River_readFrom 66 = some (.iconst 1, 67, []) := (congrArg (fun t => fxl t 66) e_16).trans rfl
theorem f_River_readFrom_67 : fx n_River_readFrom 67 = some (.iadd, 68, []) := (congrArg (fun t => fxl t 67) e_16).trans rfl
theorem f_River_readFrom_68 : fx n_River_readFrom 68 = some (.iaload, 69, []) := (congrArg (fun t => fxl t 68) e_16).trans rfl
theorem f_River_readFrom_69 : fx n_River_readFrom 69 = some (.bipush 48, 71, []) := (congrArg (fun t => fxl t 69) e_16).trans rfl
theorem f_River_readFrom_71 : fx n_River_readFrom 71 = some (.isub, 72, []) := (congrArg (fun t => fxl t 71) e_16).trans rfl
theorem f_River_readFrom_72 : fx n_River_readFrom 72 = some (.iastore, 73, []) := (congrArg (fun t => fxl t 72) e_16).trans rfl
theorem f_River_readFrom_73 : fx n_River_readFrom 73 = some (.aload_n 0, 74, []) := (congrArg (fun t => fxl t 73) e_16).trans rfl
theorem f_River_readFrom_74 : fx n_River_readFrom 74 = some (.getfield 31, 77, [2, 6]) := (congrArg (fun t => fxl t 74) e_16).trans rfl
theorem f_River_readFrom_77 : fx n_River_readFrom 77 = some (.iload_n 3, 78, []) := (congrArg (fun t => fxl t 77) e_16).trans rfl
theorem f_River_readFrom_78 : fx n_River_readFrom 78 = some (.aload_n 1, 79, []) := (congrArg (fun t => fxl t 78) e_16).trans rfl
theorem f_River_readFrom_79 : fx n_River_readFrom 79 = some (.getfield 49, 82, [1, 0]) := (congrArg (fun t => fxl t 79) e_16).trans rfl
theorem f_River_readFrom_82 : fx n_River_readFrom 82 = some (.iload 4, 84, []) := (congrArg (fun t => fxl t 82) e_16).trans rfl
theorem f_River_readFrom_84 : fx n_River_readFrom 84 = some (.iconst 2, 85, []) := (congrArg (fun t => fxl t 84) e_16).trans rfl
theorem f_River_readFrom_85 : fx n_River_readFrom 85 = some (.iadd, 86, []) := (congrArg (fun t => fxl t 85) e_16).trans rfl
theorem f_River_readFrom_86 : fx n_River_readFrom 86 = some (.iaload, 87, []) := (congrArg (fun t => fxl t 86) e_16).trans rfl
theorem f_River_readFrom_87 : fx n_River_readFrom 87 = some (.bipush 48, 89, []) := (congrArg (fun t => fxl t 87) e_16).trans rfl
theorem f_River_readFrom_89 : fx n_River_readFrom 89 = some (.isub, 90, []) := (congrArg (fun t => fxl t 89) e_16).trans rfl
theorem f_River_readFrom_90 : fx n_River_readFrom 90 = some (.iastore, 91, []) := (congrArg (fun t => fxl t 90) e_16).trans rfl
theorem f_River_readFrom_91 : fx n_River_readFrom 91 = some (.aload_n 0, 92, []) := (congrArg (fun t => fxl t 91) e_16).trans rfl
theorem f_River_readFrom_92 : fx n_River_readFrom 92 = some (.getfield 34, 95, [2, 7]) := (congrArg (fun t => fxl t 92) e_16).trans rfl
theorem f_River_readFrom_95 : fx n_River_readFrom 95 = some (.iload_n 3, 96, []) := (congrArg (fun t => fxl t 95) e_16).trans rfl
theorem f_River_readFrom_96 : fx n_River_readFrom 96 = some (.aload_n 1, 97, []) := (congrArg (fun t => fxl t 96) e_16).trans rfl
theorem f_River_readFrom_97 : fx n_River_readFrom 97 = some (.getfield 49, 100, [1, 0]) := (congrArg (fun t => fxl t 97) e_16).trans rfl
theorem f_River_readFrom_100 : fx n_River_readFrom 100 = some (.iload 4, 102, []) := (congrArg (fun t => fxl t 100) e_16).trans rfl
theorem f_River_readFrom_102 : fx n_River_readFrom 102 = some (.iconst 3, 103, []) := (congrArg (fun t => fxl t 102) e_16).trans rfl
theorem f_River_readFrom_103 : fx n_River_readFrom 103 = some (.iadd, 104, []) := (congrArg (fun t => fxl t 103) e_16).trans rfl
theorem f_River_readFrom_104 : fx n_River_readFrom 104 = some (.iaload, 105, []) := (congrArg (fun t => fxl t 104) e_16).trans rfl
theorem f_River_readFrom_105 : fx n_River_readFrom 105 = some (.bipush 45, 107, []) := (congrArg (fun t => fxl t 105) e_16).trans rfl
theorem f_River_readFrom_107 : fx n_River_readFrom 107 = some (.if_icmp .ne 7, 110, [114]) := (congrArg (fun t => fxl t 107) e_16).trans rfl
theorem f_River_readFrom_110 : fx n_River_readFrom 110 = some (.iconst (-1), 111, []) := (congrArg (fun t => fxl t 110) e_16).trans rfl
theorem f_River_readFrom_111 : fx n_River_readFrom 111 = some (.goto 15, 114, [126]) := (congrArg (fun t => fxl t 111) e_16).trans rfl
theorem f_River_readFrom_114 : fx n_River_readFrom 114 = some (.aload_n 1, 115, []) := (congrArg (fun t => fxl t 114) e_16).trans rfl
theorem f_River_readFrom_115 : fx n_River_readFrom 115 = some (.getfield 49, 118, [1, 0]) := (congrArg (fun t => fxl t 115) e_16).trans rfl
theorem f_River_readFrom_118 : fx n_River_readFrom 118 = some (.iload 4, 120, []) := (congrArg (fun t => fxl t 118) e_16).trans rfl
theorem f_River_readFrom_120 : fx n_River_readFrom 120 = some (.iconst 3, 121, []) := (congrArg (fun t => fxl t 120) e_16).trans rfl
theorem f_River_readFrom_121 : fx n_River_readFrom 121 = some (.iadd, 122, []) := (congrArg (fun t => fxl t 121) e_16).trans rfl
theorem f_River_readFrom_122 : fx n_River_readFrom 122 = some (.iaload, 123, []) := (congrArg (fun t => fxl t 122) e_16).trans rfl
theorem f_River_readFrom_123 : fx n_River_readFrom 123 = some (.bipush 48, 125, []) := (congrArg (fun t => fxl t 123) e_16).trans rfl
theorem f_River_readFrom_125 : fx n_River_readFrom 125 = some (.isub, 126, []) := (congrArg (fun t => fxl t 125) e_16).trans rfl
theorem f_River_readFrom_126 : fx n_River_readFrom 126 = some (.iastore, 127, []) := (congrArg (fun t => fxl t 126) e_16).trans rfl
theorem f_River_readFrom_127 : fx n_River_readFrom 127 = some (.iinc 3 1, 130, []) := (congrArg (fun t => fxl t 127) e_16).trans rfl
theorem f_River_readFrom_130 : fx n_River_readFrom 130 = some (.goto (-108), 133, [22]) := (congrArg (fun t => fxl t 130) e_16).trans rfl
theorem f_River_readFrom_133 : fx n_River_readFrom 133 = some (.aload_n 0, 134, []) := (congrArg (fun t => fxl t 133) e_16).trans rfl
theorem f_River_readFrom_134 : fx n_River_readFrom 134 = some (.getfield 9, 137, [2, 0]) := (congrArg (fun t => fxl t 134) e_16).trans rfl
theorem f_River_readFrom_137 : fx n_River_readFrom 137 = some (.iconst 5, 138, []) := (congrArg (fun t => fxl t 137) e_16).trans rfl
theorem f_River_readFrom_138 : fx n_River_readFrom 138 = some (.imul, 139, []) := (congrArg (fun t => fxl t 138) e_16).trans rfl
theorem f_River_readFrom_139 : fx n_River_readFrom 139 = some (.istore_n 3, 140, []) := (congrArg (fun t => fxl t 139) e_16).trans rfl
theorem f_River_readFrom_140 : fx n_River_readFrom 140 = some (.aload_n 0, 141, []) := (congrArg (fun t => fxl t 140) e_16).trans rfl
theorem f_River_readFrom_141 : fx n_River_readFrom 141 = some (.aload_n 1, 142, []) := (congrArg (fun t => fxl t 141) e_16).trans rfl
theorem f_River_readFrom_142 : fx n_River_readFrom 142 = some (.getfield 61, 145, [1, 1]) := (congrArg (fun t => fxl t 142) e_16).trans rfl
theorem f_River_readFrom_145 : fx n_River_readFrom 145 = some (.iload_n 3, 146, []) := (congrArg (fun t => fxl t 145) e_16).trans rfl
theorem f_River_readFrom_146 : fx n_River_readFrom 146 = some (.isub, 147, []) := (congrArg (fun t => fxl t 146) e_16).trans rfl
theorem f_River_readFrom_147 : fx n_River_readFrom 147 = some (.iconst 1, 148, []) := (congrArg (fun t => fxl t 147) e_16).trans rfl
theorem f_River_readFrom_148 : fx n_River_readFrom 148 = some (.iadd, 149, []) := (congrArg (fun t => fxl t 148) e_16).trans rfl
theorem f_River_readFrom_149 : fx n_River_readFrom 149 = some (.iconst 2, 150, []) := (congrArg (fun t => fxl t 149) e_16).trans rfl
theorem f_River_readFrom_150 : fx n_River_readFrom 150 = some (.idiv, 151, []) := (congrArg (fun t => fxl t 150) e_16).trans rfl
theorem f_River_readFrom_151 : fx n_River_readFrom 151 = some (.iconst 3, 152, []) := (congrArg (fun t => fxl t 151) e_16).trans rfl
theorem f_River_readFrom_152 : fx n_River_readFrom 152 = some (.invokestatic 43, 155, [900, 2]) := (congrArg (fun t => fxl t 152) e_16).trans rfl
theorem f_River_readFrom_155 : fx n_River_readFrom 155 = some (.putfield 15, 158, [2, 1]) := (congrArg (fun t => fxl t 155) e_16).trans rfl
theorem f_River_readFrom_158 : fx n_River_readFrom 158 = some (.iconst 0, 159, []) := (congrArg (fun t => fxl t 158) e_16).trans rfl
theorem f_River_readFrom_159 : fx n_River_readFrom 159 = some (.istore 4, 161, []) := (congrArg (fun t => fxl t 159) e_16).trans rfl
theorem f_River_readFrom_161 : fx n_River_readFrom 161 = some (.iload 4, 163, []) := (congrArg (fun t => fxl t 161) e_16).trans rfl
theorem f_River_readFrom_163 : fx n_River_readFrom 163 = some (.aload_n 0, 164, []) := (congrArg (fun t => fxl t 163) e_16).trans rfl
theorem f_River_readFrom_164 : fx n_River_readFrom 164 = some (.getfield 15, 167, [2, 1]) := (congrArg (fun t => fxl t 164) e_16).trans rfl
theorem f_River_readFrom_167 : fx n_River_readFrom 167 = some (.if_icmp .ge 30, 170, [197]) := (congrArg (fun t => fxl t 167) e_16).trans rfl
theorem f_River_readFrom_170 : fx n_River_readFrom 170 = some (.aload_n 0, 171, []) := (congrArg (fun t => fxl t 170) e_16).trans rfl
theorem f_River_readFrom_171 : fx n_River_readFrom 171 = some (.getfield 40, 174, [2, 9]) := (congrArg (fun t => fxl t 171) e_16).trans rfl
theorem f_River_readFrom_174 : fx n_River_readFrom 174 = some (.iload 4, 176, []) := (congrArg (fun t => fxl t 174) e_16).trans rfl
theorem f_River_readFrom_176 : fx n_River_readFrom 176 = some (.aload_n 1, 177, []) := (congrArg (fun t => fxl t 176) e_16).trans rfl
theorem f_River_readFrom_177 : fx n_River_readFrom 177 = some (.getfield 49, 180, [1, 0]) := (congrArg (fun t => fxl t 177) e_16).trans rfl
theorem f_River_readFrom_180 : fx n_River_readFrom 180 = some (.iload_n 3, 181, []) := (congrArg (fun t => fxl t 180) e_16).trans rfl
theorem f_River_readFrom_181 : fx n_River_readFrom 181 = some (.iconst 2, 182, []) := (congrArg (fun t => fxl t 181) e_16).trans rfl
theorem f_River_readFrom_182 : fx n_River_readFrom 182 = some (.iload 4, 184, []) := (congrArg (fun t => fxl t 182) e_16).trans rfl
theorem f_River_readFrom_184 : fx n_River_readFrom 184 = some (.imul, 185, []) := (congrArg (fun t => fxl t 184) e_16).trans rfl
theorem f_River_readFrom_185 : fx n_River_readFrom 185 = some (.iadd, 186, []) := (congrArg (fun t => fxl t 185) e_16).trans rfl
theorem f_River_readFrom_186 : fx n_River_readFrom 186 = some (.iaload, 187, []) := (congrArg (fun t => fxl t 186) e_16).trans rfl
theorem f_River_readFrom_187 : fx n_River_readFrom 187 = some (.bipush 48, 189, []) := (congrArg (fun t => fxl t 187) e_16).trans rfl
theorem f_River_readFrom_189 : fx n_River_readFrom 189 = some (.isub, 190, []) := (congrArg (fun t => fxl t 189) e_16).trans rfl
theorem f_River_readFrom_190 : fx n_River_readFrom 190 = some (.iastore, 191, []) := (congrArg (fun t => fxl t 190) e_16).trans rfl
theorem f_River_readFrom_191 : fx n_River_readFrom 191 = some (.iinc 4 1, 194, []) := (congrArg (fun t => fxl t 191) e_16).trans rfl
theorem f_River_readFrom_194 : fx n_River_readFrom 194 = some (.goto (-33), 197, [161]) := (congrArg (fun t => fxl t 194) e_16).trans rfl
theorem f_River_readFrom_197 : fx n_River_readFrom 197 = some (.aload_n 0, 198, []) := (congrArg (fun t => fxl t 197) e_16).trans rfl
theorem f_River_readFrom_198 : fx n_River_readFrom 198 = some (.invokevirtual 64, 201, [18, 0]) := (congrArg (fun t => fxl t 198) e_16).trans rfl
theorem f_River_readFrom_201 : fx n_River_readFrom 201 = some (.return_, 202, []) := (congrArg (fun t => fxl t 201) e_16).trans rfl
theorem f_River_copyFrom_0 : fx n_River_copyFrom 0 = some (.aload_n 0, 1, []) := (congrArg (fun t => fxl t 0) e_17).trans rfl
theorem f_River_copyFrom_1 : fx n_River_copyFrom 1 = some (.aload_n 1, 2, []) := (congrArg (fun t => fxl t 1) e_17).trans rfl
theorem f_River_copyFrom_2 : fx n_River_copyFrom 2 = some (.getfield 9, 5, [2, 0]) := (congrArg (fun t => fxl t 2) e_17).trans rfl
theorem f_River_copyFrom_5 : fx n_River_copyFrom 5 = some (.putfield 9, 8, [2, 0]) := (congrArg (fun t => fxl t 5) e_17).trans rfl
theorem f_River_copyFrom_8 : fx n_River_copyFrom 8 = some (.aload_n 0, 9, []) := (congrArg (fun t => fxl t 8) e_17).trans rfl
theorem f_River_copyFrom_9 : fx n_River_copyFrom 9 = some (.aload_n 1, 10, []) := (congrArg (fun t => fxl t 9) e_17).trans rfl
theorem f_River_copyFrom_10 : fx n_River_copyFrom 10 = some (.getfield 15, 13, [2, 1]) := (congrArg (fun t => fxl t 10) e_17).trans rfl
theorem f_River_copyFrom_13 : fx n_River_copyFrom 13 = some (.putfield 15, 16, [2, 1]) := (congrArg (fun t => fxl t 13) e_17).trans rfl
theorem f_River_copyFrom_16 : fx n_River_copyFrom 16 = some (.aload_n 0, 17, []) := (congrArg (fun t => fxl t 16) e_17).trans rfl
theorem f_River_copyFrom_17 : fx n_River_copyFrom 17 = some (.aload_n 1, 18, []) := (congrArg (fun t => fxl t 17) e_17).trans rfl
theorem f_River_copyFrom_18 : fx n_River_copyFrom 18 = some (.getfield 18, 21, [2, 2]) := (congrArg (fun t => fxl t 18) e_17).trans rfl
theorem f_River_copyFrom_21 : fx n_River_copyFrom 21 = some (.putfield 18, 24, [2, 2]) := (congrArg (fun t => fxl t 21) e_17).trans rfl
theorem f_River_copyFrom_24 : fx n_River_copyFrom 24 = some (.aload_n 0, 25, []) := (congrArg (fun t => fxl t 24) e_17).trans rfl
theorem f_River_copyFrom_25 : fx n_River_copyFrom 25 = some (.aload_n 1, 26, []) := (congrArg (fun t => fxl t 25) e_17).trans rfl
theorem f_River_copyFrom_26 : fx n_River_copyFrom 26 = some (.getfield 21, 29, [2, 3]) := (congrArg (fun t => fxl t 26) e_17).trans rfl
theorem f_River_copyFrom_29 : fx n_River_copyFrom 29 = some (.putfield 21, 32, [2, 3]) := (congrArg (fun t => fxl t 29) e_17).trans rfl
theorem f_River_copyFrom_32 : fx n_River_copyFrom 32 = some (.aload_n 1, 33, []) := (congrArg (fun t => fxl t 32) e_17).trans rfl
theorem f_River_copyFrom_33 : fx n_River_copyFrom 33 = some (.getfield 24, 36, [2, 4]) := (congrArg (fun t => fxl t 33) e_17).trans rfl
theorem f_River_copyFrom_36 : fx n_River_copyFrom 36 = some (.iconst 0, 37, []) := (congrArg (fun t => fxl t 36) e_17).trans rfl
theorem f_River_copyFrom_37 : fx n_River_copyFrom 37 = some (.aload_n 0, 38, []) := (congrArg (fun t => fxl t 37) e_17).trans rfl
theorem f_River_copyFrom_38 : fx n_River_copyFrom 38 = some (.getfield 24, 41, [2, 4]) := (congrArg (fun t => fxl t 38) e_17).trans rfl
theorem f_River_copyFrom_41 : fx n_River_copyFrom 41 = some (.iconst 0, 42, []) := (congrArg (fun t => fxl t 41) e_17).trans rfl
theorem f_River_copyFrom_42 : fx n_River_copyFrom 42 = some (.bipush 7, 44, []) := (congrArg (fun t => fxl t 42) e_17).trans rfl
theorem f_River_copyFrom_44 : fx n_River_copyFrom 44 = some (.invokestatic 67, 47, [902, 5]) := (congrArg (fun t => fxl t 44) e_17).trans rfl
theorem f_River_copyFrom_47 : fx n_River_copyFrom 47 = some (.aload_n 1, 48, []) := (congrArg (fun t => fxl t 47) e_17).trans rfl
theorem f_River_copyFrom_48 : fx n_River_copyFrom 48 = some (.getfield 28, 51, [2, 5]) := (congrArg (fun t => fxl t 48) e_17).trans rfl
theorem f_River_copyFrom_51 : fx n_River_copyFrom 51 = some (.iconst 0, 52, []) := (congrArg (fun t => fxl t 51) e_17).trans rfl
theorem f_River_copyFrom_52 : fx n_River_copyFrom 52 = some (.aload_n 0, 53, []) := (congrArg (fun t => fxl t 52) e_17).trans rfl
theorem f_River_copyFrom_53 : fx n_River_copyFrom 53 = some (.getfield 28, 56, [2, 5]) := (congrArg (fun t => fxl t 53) e_17).trans rfl
theorem f_River_copyFrom_56 : fx n_River_copyFrom 56 = some (.iconst 0, 57, []) := (congrArg (fun t => fxl t 56) e_17).trans rfl
theorem f_River_copyFrom_57 : fx n_River_copyFrom 57 = some (.bipush 7, 59, []) := (congrArg (fun t => fxl t 57) e_17).trans rfl
theorem f_River_copyFrom_59 : fx n_River_copyFrom 59 = some (.invokestatic 67, 62, [902, 5]) := (congrArg (fun t => fxl t 59) e_17).trans rfl
theorem f_River_copyFrom_62 : fx n_River_copyFrom 62 = some (.aload_n 1, 63, []) := (congrArg (fun t => fxl t 62) e_17).trans rfl
theorem f_River_copyFrom_63 : fx n_River_copyFrom 63 = some (.getfield 31, 66, [2, 6]) := (congrArg (fun t => fxl t 63) e_17).trans rfl
theorem f_River_copyFrom_66 : fx n_River_copyFrom 66 = some (.iconst 0, 67, []) := (congrArg (fun t => fxl t 66) e_17).trans rfl
theorem f_River_copyFrom_67 : fx n_River_copyFrom 67 = some (.aload_n 0, 68, []) := (congrArg (fun t => fxl t 67) e_17).trans rfl
theorem f_River_copyFrom_68 : fx n_River_copyFrom 68 = some (.getfield 31, 71, [2, 6]) := (congrArg (fun t => fxl t 68) e_17).trans rfl
theorem f_River_copyFrom_71 : fx n_River_copyFrom 71 = some (.iconst 0, 72, []) := (congrArg (fun t => fxl t 71) e_17).trans rfl
theorem f_River_copyFrom_72 : fx n_River_copyFrom 72 = some (.bipush 7, 74, []) := (congrArg (fun t => fxl t 72) e_17).trans rfl
theorem f_River_copyFrom_74 : fx n_River_copyFrom 74 = some (.invokestatic 67, 77, [902, 5]) := (congrArg (fun t => fxl t 74) e_17).trans rfl
theorem f_River_copyFrom_77 : fx n_River_copyFrom 77 = some (.aload_n 1, 78, []) := (congrArg (fun t => fxl t 77) e_17).trans rfl
theorem f_River_copyFrom_78 : fx n_River_copyFrom 78 = some (.getfield 34, 81, [2, 7]) := (congrArg (fun t => fxl t 78) e_17).trans rfl
theorem f_River_copyFrom_81 : fx n_River_copyFrom 81 = some (.iconst 0, 82, []) := (congrArg (fun t => fxl t 81) e_17).trans rfl
theorem f_River_copyFrom_82 : fx n_River_copyFrom 82 = some (.aload_n 0, 83, []) := (congrArg (fun t => fxl t 82) e_17).trans rfl
theorem f_River_copyFrom_83 : fx n_River_copyFrom 83 = some (.getfield 34, 86, [2, 7]) := (congrArg (fun t => fxl t 83) e_17).trans rfl
theorem f_River_copyFrom_86 : fx n_River_copyFrom 86 = some (.iconst 0, 87, []) := (congrArg (fun t => fxl t 86) e_17).trans rfl
theorem f_River_copyFrom_87 : fx n_River_copyFrom 87 = some (.bipush 7, 89, []) := (congrArg (fun t => fxl t 87) e_17).trans rfl
theorem f_River_copyFrom_89 : fx n_River_copyFrom 89 = some (.invokestatic 67, 92, [902, 5]) := (congrArg (fun t => fxl t 89) e_17).trans rfl
theorem f_River_copyFrom_92 : fx n_River_copyFrom 92 = some (.aload_n 1, 93, []) := (congrArg (fun t => fxl t 92) e_17).trans rfl
theorem f_River_copyFrom_93 : fx n_River_copyFrom 93 = some (.getfield 37, 96, [2, 8]) := (congrArg (fun t => fxl t 93) e_17).trans rfl
theorem f_River_copyFrom_96 : fx n_River_copyFrom 96 = some (.iconst 0, 97, []) := (congrArg (fun t => fxl t 96) e_17).trans rfl
theorem f_River_copyFrom_97 : fx n_River_copyFrom 97 = some (.aload_n 0, 98, []) := (congrArg (fun t => fxl t 97) e_17).trans rfl
theorem f_River_copyFrom_98 : fx n_River_copyFrom 98 = some (.getfield 37, 101, [2, 8]) := (congrArg (fun t => fxl t 98) e_17).trans rfl
theorem f_River_copyFrom_101 : fx n_River_copyFrom 101 = some (.iconst 0, 102, []) := (congrArg (fun t => fxl t 101) e_17).trans rfl
theorem f_River_copyFrom_102 : fx n_River_copyFrom 102 = some (.bipush 7, 104, []) := (congrArg (fun t => fxl t 102) e_17).trans rfl
theorem f_River_copyFrom_104 : fx n_River_copyFrom 104 = some (.invokestatic 67, 107, [902, 5]) := (congrArg (fun t => fxl t 104) e_17).trans rfl
theorem f_River_copyFrom_107 : fx n_River_copyFrom 107 = some (.aload_n 1, 108, []) := (congrArg (fun t => fxl t 107) e_17).trans rfl
theorem f_River_copyFrom_108 : fx n_River_copyFrom 108 = some (.getfield 40, 111, [2, 9]) := (congrArg (fun t => fxl t 108) e_17).trans rfl
theorem f_River_copyFrom_111 : fx n_River_copyFrom 111 = some (.iconst 0, 112, []) := (congrArg (fun t => fxl t 111) e_17).trans rfl
theorem f_River_copyFrom_112 : fx n_River_copyFrom 112 = some (.aload_n 0, 113, []) := (congrArg (fun t => fxl t 112) e_17).trans rfl
theorem f_River_copyFrom_113 : fx n_River_copyFrom 113 = some (.getfield 40, 116, [2, 9]) := (congrArg (fun t => fxl t 113) e_17).trans rfl
theorem f_River_copyFrom_116 : fx n_River_copyFrom 116 = some (.iconst 0, 117, []) := (congrArg (fun t => fxl t 116) e_17).trans rfl
theorem f_River_copyFrom_117 : fx n_River_copyFrom 117 = some (.iconst 3, 118, []) := (congrArg (fun t => fxl t 117) e_17).trans rfl
theorem f_River_copyFrom_118 : fx n_River_copyFrom 118 = some (.invokestatic 67, 121, [902, 5]) := (congrArg (fun t => fxl t 118) e_17).trans rfl
theorem f_River_copyFrom_121 : fx n_River_copyFrom 121 = some (.return_, 122, []) := (congrArg (fun t => fxl t 121) e_17).trans rfl
theorem f_River_measure_0 : fx n_River_measure 0 = some (.iconst 0, 1, []) := (congrArg (fun t => fxl t 0) e_18).trans rfl
theorem f_River_measure_1 : fx n_River_measure 1 = some (.istore_n 1, 2, []) := (congrArg (fun t => fxl t 1) e_18).trans rfl
theorem f_River_measure_2 : fx n_River_measure 2 = some (.iload_n 1, 3, []) := (congrArg (fun t => fxl t 2) e_18).trans rfl
theorem f_River_measure_3 : fx n_River_measure 3 = some (.aload_n 0, 4, []) := (congrArg (fun t => fxl t 3) e_18).trans rfl
theorem f_River_measure_4 : fx n_River_measure 4 = some (.getfield 9, 7, [2, 0]) := (congrArg (fun t => fxl t 4) e_18).trans rfl
theorem f_River_measure_7 : fx n_River_measure 7 = some (.if_icmp .ge 21, 10, [28]) := (congrArg (fun t => fxl t 7) e_18).trans rfl
theorem f_River_measure_10 : fx n_River_measure 10 = some (.aload_n 0, 11, []) := (congrArg (fun t => fxl t 10) e_18).trans rfl
theorem f_River_measure_11 : fx n_River_measure 11 = some (.getfield 37, 14, [2, 8]) := (congrArg (fun t => fxl t 11) e_18).trans rfl
theorem f_River_measure_14 : fx n_River_measure 14 = some (.iload_n 1, 15, []) := (congrArg (fun t => fxl t 14) e_18).trans rfl
theorem f_River_measure_15 : fx n_River_measure 15 = some (.aload_n 0, 16, []) := (congrArg (fun t => fxl t 15) e_18).trans rfl
theorem f_River_measure_16 : fx n_River_measure 16 = some (.getfield 28, 19, [2, 5]) := (congrArg (fun t => fxl t 16) e_18).trans rfl
theorem f_River_measure_19 : fx n_River_measure 19 = some (.iload_n 1, 20, []) := (congrArg (fun t => fxl t 19) e_18).trans rfl
theorem f_River_measure_20 : fx n_River_measure 20 = some (.iaload, 21, []) := (congrArg (fun t => fxl t 20) e_18).trans rfl
theorem f_River_measure_21 : fx n_River_measure 21 = some (.iastore, 22, []) := (congrArg (fun t => fxl t 21) e_18).trans rfl
theorem f_River_measure_22 : fx n_River_measure 22 = some (.iinc 1 1, 25, []) := (congrArg (fun t => fxl t 22) e_18).trans rfl
theorem f_River_measure_25 : fx n_River_measure 25 = some (.goto (-23), 28, [2]) := (congrArg (fun t => fxl t 25) e_18).trans rfl
theorem f_River_measure_28 : fx n_River_measure 28 = some (.aload_n 0, 29, []) := (congrArg (fun t => fxl t 28) e_18).trans rfl
theorem f_River_measure_29 : fx n_River_measure 29 = some (.getfield 9, 32, [2, 0]) := (congrArg (fun t => fxl t 29) e_18).trans rfl
theorem f_River_measure_32 : fx n_River_measure 32 = some (.iconst 1, 33, []) := (congrArg (fun t => fxl t 32) e_18).trans rfl
theorem f_River_measure_33 : fx n_River_measure 33 = some (.isub, 34, []) := (congrArg (fun t => fxl t 33) e_18).trans rfl
theorem f_River_measure_34 : fx n_River_measure 34 = some (.istore_n 1, 35, []) := (congrArg (fun t => fxl t 34) e_18).trans rfl
theorem f_River_measure_35 : fx n_River_measure 35 = some (.iload_n 1, 36, []) := (congrArg (fun t => fxl t 35) e_18).trans rfl
theorem f_River_measure_36 : fx n_River_measure 36 = some (.ifCond .lt 41, 39, [77]) := (congrArg (fun t => fxl t 36) e_18).trans rfl
theorem f_River_measure_39 : fx n_River_measure 39 = some (.aload_n 0, 40, []) := (congrArg (fun t => fxl t 39) e_18).trans rfl
theorem f_River_measure_40 : fx n_River_measure 40 = some (.aload_n 0, 41, []) := (congrArg (fun t => fxl t 40) e_18).trans rfl
theorem f_River_measure_41 : fx n_River_measure 41 = some (.getfield 34, 44, [2, 7]) := (congrArg (fun t => fxl t 41) e_18).trans rfl
theorem f_River_measure_44 : fx n_River_measure 44 = some (.iload_n 1, 45, []) := (congrArg (fun t => fxl t 44) e_18).trans rfl
theorem f_River_measure_45 : fx n_River_measure 45 = some (.iaload, 46, []) := (congrArg (fun t => fxl t 45) e_18).trans rfl
theorem f_River_measure_46 : fx n_River_measure 46 = some (.invokevirtual 73, 49, [14, 1]) := (congrArg (fun t => fxl t 46) e_18).trans rfl
theorem f_River_measure_49 : fx n_River_measure 49 = some (.ifCond .eq 22, 52, [71]) := (congrArg (fun t => fxl t 49) e_18).trans rfl
theorem f_River_measure_52 : fx n_River_measure 52 = some (.aload_n 0, 53, []) := (congrArg (fun t => fxl t 52) e_18).trans rfl
theorem f_River_measure_53 : fx n_River_measure 53 = some (.getfield 37, 56, [2, 8]) := (congrArg (fun t => fxl t 53) e_18).trans rfl
theorem f_River_measure_56 : fx n_River_measure 56 = some (.aload_n 0, 57, []) := (congrArg (fun t => fxl t 56) e_18).trans rfl
theorem f_River_measure_57 : fx n_River_measure 57 = some (.getfield 34, 60, [2, 7]) := (congrArg (fun t => fxl t 57) e_18).trans rfl
theorem f_River_measure_60 : fx n_River_measure 60 = some (.iload_n 1, 61, []) := (congrArg (fun t => fxl t 60) e_18).trans rfl
theorem f_River_measure_61 : fx n_River_measure 61 = some (.iaload, 62, []) := (congrArg (fun t => fxl t 61) e_18).trans rfl
theorem f_River_measure_62 : fx n_River_measure 62 = some (.dup2, 63, []) := (congrArg (fun t => fxl t 62) e_18).trans rfl
theorem f_River_measure_63 : fx n_River_measure 63 = some (.iaload, 64, []) := (congrArg (fun t => fxl t 63) e_18).trans rfl
theorem f_River_measure_64 : fx n_River_measure 64 = some (.aload_n 0, 65, []) := (congrArg (fun t => fxl t 64) e_18).trans rfl
theorem f_River_measure_65 : fx n_River_measure 65 = some (.iload_n 1, 66, []) := (congrArg (fun t => fxl t 65) e_18).trans rfl
theorem f_River_measure_66 : fx n_River_measure 66 = some (.invokevirtual 77, 69, [19, 1]) := (congrArg (fun t => fxl t 66) e_18).trans rfl
theorem f_River_measure_69 : fx n_River_measure 69 = some (.iadd, 70, []) := (congrArg (fun t => fxl t 69) e_18).trans rfl
theorem f_River_measure_70 : fx n_River_measure 70 = some (.iastore, 71, []) := (congrArg (fun t => fxl t 70) e_18).trans rfl
theorem f_River_measure_71 : fx n_River_measure 71 = some (.iinc 1 (-1), 74, []) := (congrArg (fun t => fxl t 71) e_18).trans rfl
theorem f_River_measure_74 : fx n_River_measure 74 = some (.goto (-39), 77, [35]) := (congrArg (fun t => fxl t 74) e_18).trans rfl
theorem f_River_measure_77 : fx n_River_measure 77 = some (.return_, 78, []) := (congrArg (fun t => fxl t 77) e_18).trans rfl
theorem f_River_runsOut_0 : fx n_River_runsOut 0 = some (.aload_n 0, 1, []) := (congrArg (fun t => fxl t 0) e_19).trans rfl
theorem f_River_runsOut_1 : fx n_River_runsOut 1 = some (.getfield 24, 4, [2, 4]) := (congrArg (fun t => fxl t 1) e_19).trans rfl
theorem f_River_runsOut_4 : fx n_River_runsOut 4 = some (.iload_n 1, 5, []) := (congrArg (fun t => fxl t 4) e_19).trans rfl
theorem f_River_runsOut_5 : fx n_River_runsOut 5 = some (.iaload, 6, []) := (congrArg (fun t => fxl t 5) e_19).trans rfl
theorem f_River_runsOut_6 : fx n_River_runsOut 6 = some (.aload_n 0, 7, []) := (congrArg (fun t => fxl t 6) e_19).trans rfl
theorem f_River_runsOut_7 : fx n_River_runsOut 7 = some (.getfield 37, 10, [2, 8]) := (congrArg (fun t => fxl t 7) e_19).trans rfl
theorem f_River_runsOut_10 : fx n_River_runsOut 10 = some (.iload_n 1, 11, []) := (congrArg (fun t => fxl t 10) e_19).trans rfl
theorem f_River_runsOut_11 : fx n_River_runsOut 11 = some (.iaload, 12, []) := (congrArg (fun t => fxl t 11) e_19).trans rfl
theorem f_River_runsOut_12 : fx n_River_runsOut 12 = some (.invokestatic 80, 15, [80, 2]) := (congrArg (fun t => fxl t 12) e_19).trans rfl
theorem f_River_runsOut_15 : fx n_River_runsOut 15 = some (.ireturn, 16, []) := (congrArg (fun t => fxl t 15) e_19).trans rfl
theorem f_River_floods_0 : fx n_River_floods 0 = some (.aload_n 0, 1, []) := (congrArg (fun t => fxl t 0) e_20).trans rfl
theorem f_River_floods_1 : fx n_River_floods 1 = some (.getfield 24, 4, [2, 4]) := (congrArg (fun t => fxl t 1) e_20).trans rfl
theorem f_River_floods_4 : fx n_River_floods 4 = some (.iload_n 1, 5, []) := (congrArg (fun t => fxl t 4) e_20).trans rfl
theorem f_River_floods_5 : fx n_River_floods 5 = some (.iaload, 6, []) := (congrArg (fun t => fxl t 5) e_20).trans rfl
theorem f_River_floods_6 : fx n_River_floods 6 = some (.aload_n 0, 7, []) := (congrArg (fun t => fxl t 6) e_20).trans rfl
theorem f_River_floods_7 : fx n_River_floods 7 = some (.getfield 37, 10, [2, 8]) := (congrArg (fun t => fxl t 7) e_20).trans rfl
theorem f_River_floods_10 : fx n_River_floods 10 = some (.iload_n 1, 11, []) := (congrArg (fun t => fxl t 10) e_20).trans rfl
theorem f_River_floods_11 : fx n_River_floods 11 = some (.iaload, 12, []) := (congrArg (fun t => fxl t 11) e_20).trans rfl
theorem f_River_floods_12 : fx n_River_floods 12 = some (.aload_n 0, 13, []) := (congrArg (fun t => fxl t 12) e_20).trans rfl
theorem f_River_floods_13 : fx n_River_floods 13 = some (.getfield 31, 16, [2, 6]) := (congrArg (fun t => fxl t 13) e_20).trans rfl
theorem f_River_floods_16 : fx n_River_floods 16 = some (.iload_n 1, 17, []) := (congrArg (fun t => fxl t 16) e_20).trans rfl
theorem f_River_floods_17 : fx n_River_floods 17 = some (.iaload, 18, []) := (congrArg (fun t => fxl t 17) e_20).trans rfl
theorem f_River_floods_18 : fx n_River_floods 18 = some (.invokestatic 83, 21, [81, 3]) := (congrArg (fun t => fxl t 18) e_20).trans rfl
theorem f_River_floods_21 : fx n_River_floods 21 = some (.ireturn, 22, []) := (congrArg (fun t => fxl t 21) e_20).trans rfl
theorem f_River_isSource_0 : fx n_River_isSource 0 = some (.iconst 0, 1, []) := (congrArg (fun t => fxl t 0) e_21).trans rfl
theorem f_River_isSource_1 : fx n_River_isSource 1 = some (.istore_n 2, 2, []) := (congrArg (fun t => fxl t 1) e_21).trans rfl
theorem f_River_isSource_2 : fx n_River_isSource 2 = some (.iload_n 2, 3, []) := (congrArg (fun t => fxl t 2) e_21).trans rfl
theorem f_River_isSource_3 : fx n_River_isSource 3 = some (.aload_n 0, 4, []) := (congrArg (fun t => fxl t 3) e_21).trans rfl
theorem f_River_isSource_4 : fx n_River_isSource 4 = some (.getfield 9, 7, [2, 0]) := (congrArg (fun t => fxl t 4) e_21).trans rfl
theorem f_River_isSource_7 : fx n_River_isSource 7 = some (.if_icmp .ge 21, 10, [28]) := (congrArg (fun t => fxl t 7) e_21).trans rfl
theorem f_River_isSource_10 : fx n_River_isSource 10 = some (.aload_n 0, 11, []) := (congrArg (fun t => fxl t 10) e_21).trans rfl
theorem f_River_isSource_11 : fx n_River_isSource 11 = some (.getfield 34, 14, [2, 7]) := (congrArg (fun t => fxl t 11) e_21).trans rfl
theorem f_River_isSource_14 : fx n_River_isSource 14 = some (.iload_n 2, 15, []) := (congrArg (fun t => fxl t 14) e_21).trans rfl
theorem f_River_isSource_15 : fx n_River_isSource 15 = some (.iaload, 16, []) := (congrArg (fun t => fxl t 15) e_21).trans rfl
theorem f_River_isSource_16 : fx n_River_isSource 16 = some (.iload_n 1, 17, []) := (congrArg (fun t => fxl t 16) e_21).trans rfl
theorem f_River_isSource_17 : fx n_River_isSource 17 = some (.if_icmp .ne 5, 20, [22]) := (congrArg (fun t => fxl t 17) e_21).trans rfl
theorem f_River_isSource_20 : fx n_River_isSource 20 = some (.iconst 0, 21, []) := (congrArg (fun t => fxl t 20) e_21).trans rfl
theorem f_River_isSource_21 : fx n_River_isSource 21 = some (.ireturn, 22, []) := (congrArg (fun t => fxl t 21) e_21).trans rfl
theorem f_River_isSource_22 : fx n_River_isSource 22 = some (.iinc 2 1, 25, []) := (congrArg (fun t => fxl t 22) e_21).trans rfl
theorem f_River_isSource_25 : fx n_River_isSource 25 = some (.goto (-23), 28, [2]) := (congrArg (fun t => fxl t 25) e_21).trans rfl
theorem f_River_isSource_28 : fx n_River_isSource 28 = some (.iconst 1, 29, []) := (congrArg (fun t => fxl t 28) e_21).trans rfl
theorem f_River_isSource_29 : fx n_River_isSource 29 = some (.ireturn, 30, []) := (congrArg (fun t => fxl t 29) e_21).trans rfl
theorem f_River_governessBits_0 : fx n_River_governessBits 0 = some (.iconst 0, 1, []) := (congrArg (fun t => fxl t 0) e_22).trans rfl
theorem f_River_governessBits_1 : fx n_River_governessBits 1 = some (.istore_n 2, 2, []) := (congrArg (fun t => fxl t 1) e_22).trans rfl
theorem f_River_governessBits_2 : fx n_River_governessBits 2 = some (.iconst 0, 3, []) := (congrArg (fun t => fxl t 2) e_22).trans rfl
theorem f_River_governessBits_3 : fx n_River_governessBits 3 = some (.istore_n 3, 4, []) := (congrArg (fun t => fxl t 3) e_22).trans rfl
theorem f_River_governessBits_4 : fx n_River_governessBits 4 = some (.iload_n 3, 5, []) := (congrArg (fun t => fxl t 4) e_22).trans rfl
theorem f_River_governessBits_5 : fx n_River_governessBits 5 = some (.aload_n 0, 6, []) := (congrArg (fun t => fxl t 5) e_22).trans rfl
theorem f_River_governessBits_6 : fx n_River_governessBits 6 = some (.getfield 15, 9, [2, 1]) := (congrArg (fun t => fxl t 6) e_22).trans rfl
theorem f_River_governessBits_9 : fx n_River_governessBits 9 = some (.if_icmp .ge 25, 12, [34]) := (congrArg (fun t => fxl t 9) e_22).trans rfl
theorem f_River_governessBits_12 : fx n_River_governessBits 12 = some (.aload_n 0, 13, []) := (congrArg (fun t => fxl t 12) e_22).trans rfl
theorem f_River_governessBits_13 : fx n_River_governessBits 13 = some (.getfield 40, 16, [2, 9]) := (congrArg (fun t => fxl t 13) e_22).trans rfl
theorem f_River_governessBits_16 : fx n_River_governessBits 16 = some (.iload_n 3, 17, []) := (congrArg (fun t => fxl t 16) e_22).trans rfl
theorem f_River_governessBits_17 : fx n_River_governessBits 17 = some (.iaload, 18, []) := (congrArg (fun t => fxl t 17) e_22).trans rfl
theorem f_River_governessBits_18 : fx n_River_governessBits 18 = some (.iload_n 1, 19, []) := (congrArg (fun t => fxl t 18) e_22).trans rfl
theorem f_River_governessBits_19 : fx n_River_governessBits 19 = some (.if_icmp .ne 9, 22, [28]) := (congrArg (fun t => fxl t 19) e_22).trans rfl
theorem f_River_governessBits_22 : fx n_River_governessBits 22 = some (.iload_n 2, 23, []) := (congrArg (fun t => fxl t 22) e_22).trans rfl
theorem f_River_governessBits_23 : fx n_River_governessBits 23 = some (.iconst 1, 24, []) := (congrArg (fun t => fxl t 23) e_22).trans rfl
theorem f_River_governessBits_24 : fx n_River_governessBits 24 = some (.iload_n 3, 25, []) := (congrArg (fun t => fxl t 24) e_22).trans rfl
theorem f_River_governessBits_25 : fx n_River_governessBits 25 = some (.ishl, 26, []) := (congrArg (fun t => fxl t 25) e_22).trans rfl
theorem f_River_governessBits_26 : fx n_River_governessBits 26 = some (.ior, 27, []) := (congrArg (fun t => fxl t 26) e_22).trans rfl
theorem f_River_governessBits_27 : fx n_River_governessBits 27 = some (.istore_n 2, 28, []) := (congrArg (fun t => fxl t 27) e_22).trans rfl
theorem f_River_governessBits_28 : fx n_River_governessBits 28 = some (.iinc 3 1, 31, []) := (congrArg (fun t => fxl t 28) e_22).trans rfl
theorem f_River_governessBits_31 : fx n_River_governessBits 31 = some (.goto (-27), 34, [4]) := (congrArg (fun t => fxl t 31) e_22).trans rfl
theorem f_River_governessBits_34 : fx n_River_governessBits 34 = some (.iload_n 2, 35, []) := (congrArg (fun t => fxl t 34) e_22).trans rfl
theorem f_River_governessBits_35 : fx n_River_governessBits 35 = some (.ireturn, 36, []) := (congrArg (fun t => fxl t 35) e_22).trans rfl
theorem f_River_bargeFrom_0 : fx n_River_bargeFrom 0 = some (.aload_n 0, 1, []) := (congrArg (fun t => fxl t 0) e_23).trans rfl
theorem f_River_bargeFrom_1 : fx n_River_bargeFrom 1 = some (.iload_n 1, 2, []) := (congrArg (fun t => fxl t 1) e_23).trans rfl
theorem f_River_bargeFrom_2 : fx n_River_bargeFrom 2 = some (.invokevirtual 87, 5, [25, 1]) := (congrArg (fun t => fxl t 2) e_23).trans rfl
theorem f_River_bargeFrom_5 : fx n_River_bargeFrom 5 = some (.istore_n 2, 6, []) := (congrArg (fun t => fxl t 5) e_23).trans rfl
theorem f_River_bargeFrom_6 : fx n_River_bargeFrom 6 = some (.aload_n 0, 7, []) := (congrArg (fun t => fxl t 6) e_23).trans rfl
theorem f_River_bargeFrom_7 : fx n_River_bargeFrom 7 = some (.getfield 37, 10, [2, 8]) := (congrArg (fun t => fxl t 7) e_23).trans rfl
theorem f_River_bargeFrom_10 : fx n_River_bargeFrom 10 = some (.iload_n 1, 11, []) := (congrArg (fun t => fxl t 10) e_23).trans rfl
theorem f_River_bargeFrom_11 : fx n_River_bargeFrom 11 = some (.iaload, 12, []) := (congrArg (fun t => fxl t 11) e_23).trans rfl
theorem f_River_bargeFrom_12 : fx n_River_bargeFrom 12 = some (.istore_n 3, 13, []) := (congrArg (fun t => fxl t 12) e_23).trans rfl
theorem f_River_bargeFrom_13 : fx n_River_bargeFrom 13 = some (.iconst 0, 14, []) := (congrArg (fun t => fxl t 13) e_23).trans rfl
theorem f_River_bargeFrom_14 : fx n_River_bargeFrom 14 = some (.istore 4, 16, []) := (congrArg (fun t => fxl t 14) e_23).trans rfl
theorem f_River_bargeFrom_16 : fx n_River_bargeFrom 16 = some (.iload 4, 18, []) := (congrArg (fun t => fxl t 16) e_23).trans rfl
theorem f_River_bargeFrom_18 : fx n_River_bargeFrom 18 = some (.iload_n 1, 19, []) := (congrArg (fun t => fxl t 18) e_23).trans rfl
theorem f_River_bargeFrom_19 : fx n_River_bargeFrom 19 = some (.if_icmp .ge 31, 22, [50]) := (congrArg (fun t => fxl t 19) e_23).trans rfl
theorem f_River_bargeFrom_22 : fx n_River_bargeFrom 22 = some (.iload_n 2, 23, []) := (congrArg (fun t => fxl t 22) e_23).trans rfl
theorem f_River_bargeFrom_23 : fx n_River_bargeFrom 23 = some (.iload 4, 25, []) := (congrArg (fun t => fxl t 23) e_23).trans rfl
theorem f_River_bargeFrom_25 : fx n_River_bargeFrom 25 = some (.ishr, 26, []) := (congrArg (fun t => fxl t 25) e_23).trans rfl
theorem f_River_bargeFrom_26 : fx n_River_bargeFrom 26 = some (.iconst 1, 27, []) := (congrArg (fun t => fxl t 26) e_23).trans rfl
theorem f_River_bargeFrom_27 : fx n_River_bargeFrom 27 = some (.iand, 28, []) := (congrArg (fun t => fxl t 27) e_23).trans rfl
theorem f_River_bargeFrom_28 : fx n_River_bargeFrom 28 = some (.iconst 1, 29, []) := (congrArg (fun t => fxl t 28) e_23).trans rfl
theorem f_River_bargeFrom_29 : fx n_River_bargeFrom 29 = some (.if_icmp .ne 15, 32, [44]) := (congrArg (fun t => fxl t 29) e_23).trans rfl
theorem f_River_bargeFrom_32 : fx n_River_bargeFrom 32 = some (.iload_n 3, 33, []) := (congrArg (fun t => fxl t 32) e_23).trans rfl
theorem f_River_bargeFrom_33 : fx n_River_bargeFrom 33 = some (.aload_n 0, 34, []) := (congrArg (fun t => fxl t 33) e_23).trans rfl
theorem f_River_bargeFrom_34 : fx n_River_bargeFrom 34 = some (.getfield 37, 37, [2, 8]) := (congrArg (fun t => fxl t 34) e_23).trans rfl
theorem f_River_bargeFrom_37 : fx n_River_bargeFrom 37 = some (.iload 4, 39, []) := (congrArg (fun t => fxl t 37) e_23).trans rfl
theorem f_River_bargeFrom_39 : fx n_River_bargeFrom 39 = some (.iaload, 40, []) := (congrArg (fun t => fxl t 39) e_23).trans rfl
theorem f_River_bargeFrom_40 : fx n_River_bargeFrom 40 = some (.invokestatic 43, 43, [900, 2]) := (congrArg (fun t => fxl t 40) e_23).trans rfl
theorem f_River_bargeFrom_43 : fx n_River_bargeFrom 43 = some (.istore_n 3, 44, []) := (congrArg (fun t => fxl t 43) e_23).trans rfl
theorem f_River_bargeFrom_44 : fx n_River_bargeFrom 44 = some (.iinc 4 1, 47, []) := (congrArg (fun t => fxl t 44) e_23).trans rfl
theorem f_River_bargeFrom_47 : fx n_River_bargeFrom 47 = some (.goto (-31), 50, [16]) := (congrArg (fun t => fxl t 47) e_23).trans rfl
theorem f_River_bargeFrom_50 : fx n_River_bargeFrom 50 = some (.iload_n 3, 51, []) := (congrArg (fun t => fxl t 50) e_23).trans rfl
theorem f_River_bargeFrom_51 : fx n_River_bargeFrom 51 = some (.ireturn, 52, []) := (congrArg (fun t => fxl t 51) e_23).trans rfl
theorem f_River_reachesToSea_0 : fx n_River_reachesToSea 0 = some (.aload_n 0, 1, []) := (congrArg (fun t => fxl t 0) e_24).trans rfl
theorem f_River_reachesToSea_1 : fx n_River_reachesToSea 1 = some (.iload_n 1, 2, []) := (congrArg (fun t => fxl t 1) e_24).trans rfl
theorem f_River_reachesToSea_2 : fx n_River_reachesToSea 2 = some (.invokevirtual 87, 5, [25, 1]) := (congrArg (fun t => fxl t 2) e_24).trans rfl
theorem f_River_reachesToSea_5 : fx n_River_reachesToSea 5 = some (.invokestatic 90, 8, [151, 1]) := (congrArg (fun t => fxl t 5) e_24).trans rfl
theorem f_River_reachesToSea_8 : fx n_River_reachesToSea 8 = some (.ireturn, 9, []) := (congrArg (fun t => fxl t 8) e_24).trans rfl
theorem f_River_wayBits_0 : fx n_River_wayBits 0 = some (.iconst 1, 1, []) := (congrArg (fun t => fxl t 0) e_25).trans rfl
theorem f_River_wayBits_1 : fx n_River_wayBits 1 = some (.iload_n 1, 2, []) := (congrArg (fun t => fxl t 1) e_25).trans rfl
theorem f_River_wayBits_2 : fx n_River_wayBits 2 = some (.ishl, 3, []) := (congrArg (fun t => fxl t 2) e_25).trans rfl
theorem f_River_wayBits_3 : fx n_River_wayBits 3 = some (.istore_n 2, 4, []) := (congrArg (fun t => fxl t 3) e_25).trans rfl
theorem f_River_wayBits_4 : fx n_River_wayBits 4 = some (.iload_n 1, 5, []) := (congrArg (fun t => fxl t 4) e_25).trans rfl
theorem f_River_wayBits_5 : fx n_River_wayBits 5 = some (.istore_n 3, 6, []) := (congrArg (fun t => fxl t 5) e_25).trans rfl
theorem f_River_wayBits_6 : fx n_River_wayBits 6 = some (.iload_n 3, 7, []) := (congrArg (fun t => fxl t 6) e_25).trans rfl
theorem f_River_wayBits_7 : fx n_River_wayBits 7 = some (.ifCond .lt 42, 10, [49]) := (congrArg (fun t => fxl t 7) e_25).trans rfl
theorem f_River_wayBits_10 : fx n_River_wayBits 10 = some (.iload_n 2, 11, []) := (congrArg (fun t => fxl t 10) e_25).trans rfl
theorem f_River_wayBits_11 : fx n_River_wayBits 11 = some (.iload_n 3, 12, []) := (congrArg (fun t => fxl t 11) e_25).trans rfl
theorem f_River_wayBits_12 : fx n_River_wayBits 12 = some (.ishr, 13, []) := (congrArg (fun t => fxl t 12) e_25).trans rfl
theorem f_River_wayBits_13 : fx n_River_wayBits 13 = some (.iconst 1, 14, []) := (congrArg (fun t => fxl t 13) e_25).trans rfl
theorem f_River_wayBits_14 : fx n_River_wayBits 14 = some (.iand, 15, []) := (congrArg (fun t => fxl t 14) e_25).trans rfl
theorem f_River_wayBits_15 : fx n_River_wayBits 15 = some (.iconst 1, 16, []) := (congrArg (fun t => fxl t 15) e_25).trans rfl
theorem f_River_wayBits_16 : fx n_River_wayBits 16 = some (.if_icmp .ne 27, 19, [43]) := (congrArg (fun t => fxl t 16) e_25).trans rfl
theorem f_River_wayBits_19 : fx n_River_wayBits 19 = some (.aload_n 0, 20, []) := (congrArg (fun t => fxl t 19) e_25).trans rfl
theorem f_River_wayBits_20 : fx n_River_wayBits 20 = some (.aload_n 0, 21, []) := (congrArg (fun t => fxl t 20) e_25).trans rfl
theorem f_River_wayBits_21 : fx n_River_wayBits 21 = some (.getfield 34, 24, [2, 7]) := (congrArg (fun t => fxl t 21) e_25).trans rfl
theorem f_River_wayBits_24 : fx n_River_wayBits 24 = some (.iload_n 3, 25, []) := (congrArg (fun t => fxl t 24) e_25).trans rfl
theorem f_River_wayBits_25 : fx n_River_wayBits 25 = some (.iaload, 26, []) := (congrArg (fun t => fxl t 25) e_25).trans rfl
theorem f_River_wayBits_26 : fx n_River_wayBits 26 = some (.invokevirtual 73, 29, [14, 1]) := (congrArg (fun t => fxl t 26) e_25).trans rfl
theorem f_River_wayBits_29 : fx n_River_wayBits 29 = some (.ifCond .eq 14, 32, [43]) := (congrArg (fun t => fxl t 29) e_25).trans rfl
theorem f_River_wayBits_32 : fx n_River_wayBits 32 = some (.iload_n 2, 33, []) := (congrArg (fun t => fxl t 32) e_25).trans rfl
theorem f_River_wayBits_33 : fx n_River_wayBits 33 = some (.iconst 1, 34, []) := (congrArg (fun t => fxl t 33) e_25).trans rfl
theorem f_River_wayBits_34 : fx n_River_wayBits 34 = some (.aload_n 0, 35, []) := (congrArg (fun t => fxl t 34) e_25).trans rfl
theorem f_River_wayBits_35 : fx n_River_wayBits 35 = some (.getfield 34, 38, [2, 7]) := (congrArg (fun t => fxl t 35) e_25).trans rfl
theorem f_River_wayBits_38 : fx n_River_wayBits 38 = some (.iload_n 3, 39, []) := (congrArg (fun t => fxl t 38) e_25).trans rfl
theorem f_River_wayBits_39 : fx n_River_wayBits 39 = some (.iaload, 40, []) := (congrArg (fun t => fxl t 39) e_25).trans rfl
theorem f_River_wayBits_40 : fx n_River_wayBits 40 = some (.ishl, 41, []) := (congrArg (fun t => fxl t 40) e_25).trans rfl
theorem f_River_wayBits_41 : fx n_River_wayBits 41 = some (.ior, 42, []) := (congrArg (fun t => fxl t 41) e_25).trans rfl
theorem f_River_wayBits_42 : fx n_River_wayBits 42 = some (.istore_n 2, 43, []) := (congrArg (fun t => fxl t 42) e_25).trans rfl
theorem f_River_wayBits_43 : fx n_River_wayBits 43 = some (.iinc 3 (-1), 46, []) := (congrArg (fun t => fxl t 43) e_25).trans rfl
theorem f_River_wayBits_46 : fx n_River_wayBits 46 = some (.goto (-40), 49, [6]) := (congrArg (fun t => fxl t 46) e_25).trans rfl
theorem f_River_wayBits_49 : fx n_River_wayBits 49 = some (.iload_n 2, 50, []) := (congrArg (fun t => fxl t 49) e_25).trans rfl
theorem f_River_wayBits_50 : fx n_River_wayBits 50 = some (.ireturn, 51, []) := (congrArg (fun t => fxl t 50) e_25).trans rfl
theorem f_River_rainOneMore_0 : fx n_River_rainOneMore 0 = some (.aload_n 0, 1, []) := (congrArg (fun t => fxl t 0) e_26).trans rfl
theorem f_River_rainOneMore_1 : fx n_River_rainOneMore 1 = some (.iload_n 1, 2, []) := (congrArg (fun t => fxl t 1) e_26).trans rfl
theorem f_River_rainOneMore_2 : fx n_River_rainOneMore 2 = some (.invokevirtual 73, 5, [14, 1]) := (congrArg (fun t => fxl t 2) e_26).trans rfl
theorem f_River_rainOneMore_5 : fx n_River_rainOneMore 5 = some (.ifCond .eq 26, 8, [31]) := (congrArg (fun t => fxl t 5) e_26).trans rfl
theorem f_River_rainOneMore_8 : fx n_River_rainOneMore 8 = some (.aload_n 0, 9, []) := (congrArg (fun t => fxl t 8) e_26).trans rfl
theorem f_River_rainOneMore_9 : fx n_River_rainOneMore 9 = some (.getfield 28, 12, [2, 5]) := (congrArg (fun t => fxl t 9) e_26).trans rfl
theorem f_River_rainOneMore_12 : fx n_River_rainOneMore 12 = some (.iload_n 1, 13, []) := (congrArg (fun t => fxl t 12) e_26).trans rfl
theorem f_River_rainOneMore_13 : fx n_River_rainOneMore 13 = some (.aload_n 0, 14, []) := (congrArg (fun t => fxl t 13) e_26).trans rfl
theorem f_River_rainOneMore_14 : fx n_River_rainOneMore 14 = some (.getfield 28, 17, [2, 5]) := (congrArg (fun t => fxl t 14) e_26).trans rfl
theorem f_River_rainOneMore_17 : fx n_River_rainOneMore 17 = some (.iload_n 1, 18, []) := (congrArg (fun t => fxl t 17) e_26).trans rfl
theorem f_River_rainOneMore_18 : fx n_River_rainOneMore 18 = some (.iaload, 19, []) := (congrArg (fun t => fxl t 18) e_26).trans rfl
theorem f_River_rainOneMore_19 : fx n_River_rainOneMore 19 = some (.iconst 1, 20, []) := (congrArg (fun t => fxl t 19) e_26).trans rfl
theorem f_River_rainOneMore_20 : fx n_River_rainOneMore 20 = some (.iadd, 21, []) := (congrArg (fun t => fxl t 20) e_26).trans rfl
theorem f_River_rainOneMore_21 : fx n_River_rainOneMore 21 = some (.bipush 9, 23, []) := (congrArg (fun t => fxl t 21) e_26).trans rfl
theorem f_River_rainOneMore_23 : fx n_River_rainOneMore 23 = some (.invokestatic 43, 26, [900, 2]) := (congrArg (fun t => fxl t 23) e_26).trans rfl
theorem f_River_rainOneMore_26 : fx n_River_rainOneMore 26 = some (.iastore, 27, []) := (congrArg (fun t => fxl t 26) e_26).trans rfl
theorem f_River_rainOneMore_27 : fx n_River_rainOneMore 27 = some (.aload_n 0, 28, []) := (congrArg (fun t => fxl t 27) e_26).trans rfl
theorem f_River_rainOneMore_28 : fx n_River_rainOneMore 28 = some (.invokevirtual 64, 31, [18, 0]) := (congrArg (fun t => fxl t 28) e_26).trans rfl
theorem f_River_rainOneMore_31 : fx n_River_rainOneMore 31 = some (.return_, 32, []) := (congrArg (fun t => fxl t 31) e_26).trans rfl
theorem f_River_passMonth_0 : fx n_River_passMonth 0 = some (.aload_n 0, 1, []) := (congrArg (fun t => fxl t 0) e_27).trans rfl
theorem f_River_passMonth_1 : fx n_River_passMonth 1 = some (.dup, 2, []) := (congrArg (fun t => fxl t 1) e_27).trans rfl
theorem f_River_passMonth_2 : fx n_River_passMonth 2 = some (.getfield 18, 5, [2, 2]) := (congrArg (fun t => fxl t 2) e_27).trans rfl
theorem f_River_passMonth_5 : fx n_River_passMonth 5 = some (.iconst 1, 6, []) := (congrArg (fun t => fxl t 5) e_27).trans rfl
theorem f_River_passMonth_6 : fx n_River_passMonth 6 = some (.iadd, 7, []) := (congrArg (fun t => fxl t 6) e_27).trans rfl
theorem f_River_passMonth_7 : fx n_River_passMonth 7 = some (.putfield 18, 10, [2, 2]) := (congrArg (fun t => fxl t 7) e_27).trans rfl
theorem f_River_passMonth_10 : fx n_River_passMonth 10 = some (.aload_n 0, 11, []) := (congrArg (fun t => fxl t 10) e_27).trans rfl
theorem f_River_passMonth_11 : fx n_River_passMonth 11 = some (.dup, 12, []) := (congrArg (fun t => fxl t 11) e_27).trans rfl
theorem f_River_passMonth_12 : fx n_River_passMonth 12 = some (.getfield 21, 15, [2, 3]) := (congrArg (fun t => fxl t 12) e_27).trans rfl
theorem f_River_passMonth_15 : fx n_River_passMonth 15 = some (.aload_n 0, 16, []) := (congrArg (fun t => fxl t 15) e_27).trans rfl
theorem f_River_passMonth_16 : fx n_River_passMonth 16 = some (.getfield 15, 19, [2, 1]) := (congrArg (fun t => fxl t 16) e_27).trans rfl
theorem f_River_passMonth_19 : fx n_River_passMonth 19 = some (.iadd, 20, []) := (congrArg (fun t => fxl t 19) e_27).trans rfl
theorem f_River_passMonth_20 : fx n_River_passMonth 20 = some (.putfield 21, 23, [2, 3]) := (congrArg (fun t => fxl t 20) e_27).trans rfl
theorem f_River_passMonth_23 : fx n_River_passMonth 23 = some (.iconst 0, 24, []) := (congrArg (fun t => fxl t 23) e_27).trans rfl
theorem f_River_passMonth_24 : fx n_River_passMonth 24 = some (.istore_n 1, 25, []) := (congrArg (fun t => fxl t 24) e_27).trans rfl
theorem f_River_passMonth_25 : fx n_River_passMonth 25 = some (.iload_n 1, 26, []) := (congrArg (fun t => fxl t 25) e_27).trans rfl
theorem f_River_passMonth_26 : fx n_River_passMonth 26 = some (.aload_n 0, 27, []) := (congrArg (fun t => fxl t 26) e_27).trans rfl
theorem f_River_passMonth_27 : fx n_River_passMonth 27 = some (.getfield 9, 30, [2, 0]) := (congrArg (fun t => fxl t 27) e_27).trans rfl
theorem f_River_passMonth_30 : fx n_River_passMonth 30 = some (.if_icmp .ge 42, 33, [72]) := (congrArg (fun t => fxl t 30) e_27).trans rfl
theorem f_River_passMonth_33 : fx n_River_passMonth 33 = some (.aload_n 0, 34, []) := (congrArg (fun t => fxl t 33) e_27).trans rfl
theorem f_River_passMonth_34 : fx n_River_passMonth 34 = some (.getfield 31, 37, [2, 6]) := (congrArg (fun t => fxl t 34) e_27).trans rfl
theorem f_River_passMonth_37 : fx n_River_passMonth 37 = some (.iload_n 1, 38, []) := (congrArg (fun t => fxl t 37) e_27).trans rfl
theorem f_River_passMonth_38 : fx n_River_passMonth 38 = some (.aload_n 0, 39, []) := (congrArg (fun t => fxl t 38) e_27).trans rfl
theorem f_River_passMonth_39 : fx n_River_passMonth 39 = some (.getfield 24, 42, [2, 4]) := (congrArg (fun t => fxl t 39) e_27).trans rfl
theorem f_River_passMonth_42 : fx n_River_passMonth 42 = some (.iload_n 1, 43, []) := (congrArg (fun t => fxl t 42) e_27).trans rfl
theorem f_River_passMonth_43 : fx n_River_passMonth 43 = some (.iaload, 44, []) := (congrArg (fun t => fxl t 43) e_27).trans rfl
theorem f_River_passMonth_44 : fx n_River_passMonth 44 = some (.aload_n 0, 45, []) := (congrArg (fun t => fxl t 44) e_27).trans rfl
theorem f_River_passMonth_45 : fx n_River_passMonth 45 = some (.getfield 31, 48, [2, 6]) := (congrArg (fun t => fxl t 45) e_27).trans rfl
theorem f_River_passMonth_48 : fx n_River_passMonth 48 = some (.iload_n 1, 49, []) := (congrArg (fun t => fxl t 48) e_27).trans rfl
theorem f_River_passMonth_49 : fx n_River_passMonth 49 = some (.iaload, 50, []) := (congrArg (fun t => fxl t 49) e_27).trans rfl
theorem f_River_passMonth_50 : fx n_River_passMonth 50 = some (.aload_n 0, 51, []) := (congrArg (fun t => fxl t 50) e_27).trans rfl
theorem f_River_passMonth_51 : fx n_River_passMonth 51 = some (.getfield 18, 54, [2, 2]) := (congrArg (fun t => fxl t 51) e_27).trans rfl
theorem f_River_passMonth_54 : fx n_River_passMonth 54 = some (.aload_n 0, 55, []) := (congrArg (fun t => fxl t 54) e_27).trans rfl
theorem f_River_passMonth_55 : fx n_River_passMonth 55 = some (.iload_n 1, 56, []) := (congrArg (fun t => fxl t 55) e_27).trans rfl
theorem f_River_passMonth_56 : fx n_River_passMonth 56 = some (.invokevirtual 95, 59, [22, 1]) := (congrArg (fun t => fxl t 56) e_27).trans rfl
theorem f_River_passMonth_59 : fx n_River_passMonth 59 = some (.invokestatic 90, 62, [151, 1]) := (congrArg (fun t => fxl t 59) e_27).trans rfl
theorem f_River_passMonth_62 : fx n_River_passMonth 62 = some (.invokestatic 98, 65, [82, 4]) := (congrArg (fun t => fxl t 62) e_27).trans rfl
theorem f_River_passMonth_65 : fx n_River_passMonth 65 = some (.iastore, 66, []) := (congrArg (fun t => fxl t 65) e_27).trans rfl
theorem f_River_passMonth_66 : fx n_River_passMonth 66 = some (.iinc 1 1, 69, []) := (congrArg (fun t => fxl t 66) e_27).trans rfl
theorem f_River_passMonth_69 : fx n_River_passMonth 69 = some (.goto (-44), 72, [25]) := (congrArg (fun t => fxl t 69) e_27).trans rfl
theorem f_River_passMonth_72 : fx n_River_passMonth 72 = some (.return_, 73, []) := (congrArg (fun t => fxl t 72) e_27).trans rfl
theorem f_River_floodCount_0 : fx n_River_floodCount 0 = some (.iconst 0, 1, []) := (congrArg (fun t => fxl t 0) e_28).trans rfl
theorem f_River_floodCount_1 : fx n_River_floodCount 1 = some (.istore_n 1, 2, []) := (congrArg (fun t => fxl t 1) e_28).trans rfl
theorem f_River_floodCount_2 : fx n_River_floodCount 2 = some (.iconst 0, 3, []) := (congrArg (fun t => fxl t 2) e_28).trans rfl
theorem f_River_floodCount_3 : fx n_River_floodCount 3 = some (.istore_n 2, 4, []) := (congrArg (fun t => fxl t 3) e_28).trans rfl
theorem f_River_floodCount_4 : fx n_River_floodCount 4 = some (.iload_n 2, 5, []) := (congrArg (fun t => fxl t 4) e_28).trans rfl
theorem f_River_floodCount_5 : fx n_River_floodCount 5 = some (.aload_n 0, 6, []) := (congrArg (fun t => fxl t 5) e_28).trans rfl
theorem f_River_floodCount_6 : fx n_River_floodCount 6 = some (.getfield 9, 9, [2, 0]) := (congrArg (fun t => fxl t 6) e_28).trans rfl
theorem f_River_floodCount_9 : fx n_River_floodCount 9 = some (.if_icmp .ge 20, 12, [29]) := (congrArg (fun t => fxl t 9) e_28).trans rfl
theorem f_River_floodCount_12 : fx n_River_floodCount 12 = some (.aload_n 0, 13, []) := (congrArg (fun t => fxl t 12) e_28).trans rfl
theorem f_River_floodCount_13 : fx n_River_floodCount 13 = some (.iload_n 2, 14, []) := (congrArg (fun t => fxl t 13) e_28).trans rfl
theorem f_River_floodCount_14 : fx n_River_floodCount 14 = some (.invokevirtual 102, 17, [20, 1]) := (congrArg (fun t => fxl t 14) e_28).trans rfl
theorem f_River_floodCount_17 : fx n_River_floodCount 17 = some (.ifCond .eq 6, 20, [23]) := (congrArg (fun t => fxl t 17) e_28).trans rfl
theorem f_River_floodCount_20 : fx n_River_floodCount 20 = some (.iinc 1 1, 23, []) := (congrArg (fun t => fxl t 20) e_28).trans rfl
theorem f_River_floodCount_23 : fx n_River_floodCount 23 = some (.iinc 2 1, 26, []) := (congrArg (fun t => fxl t 23) e_28).trans rfl
theorem f_River_floodCount_26 : fx n_River_floodCount 26 = some (.goto (-22), 29, [4]) := (congrArg (fun t => fxl t 26) e_28).trans rfl
theorem f_River_floodCount_29 : fx n_River_floodCount 29 = some (.iload_n 1, 30, []) := (congrArg (fun t => fxl t 29) e_28).trans rfl
theorem f_River_floodCount_30 : fx n_River_floodCount 30 = some (.ireturn, 31, []) := (congrArg (fun t => fxl t 30) e_28).trans rfl
theorem f_River_flowTogether_0 : fx n_River_flowTogether 0 = some (.iconst 0, 1, []) := (congrArg (fun t => fxl t 0) e_29).trans rfl
theorem f_River_flowTogether_1 : fx n_River_flowTogether 1 = some (.istore_n 1, 2, []) := (congrArg (fun t => fxl t 1) e_29).trans rfl
theorem f_River_flowTogether_2 : fx n_River_flowTogether 2 = some (.iconst 0, 3, []) := (congrArg (fun t => fxl t 2) e_29).trans rfl
theorem f_River_flowTogether_3 : fx n_River_flowTogether 3 = some (.istore_n 2, 4, []) := (congrArg (fun t => fxl t 3) e_29).trans rfl
theorem f_River_flowTogether_4 : fx n_River_flowTogether 4 = some (.iload_n 2, 5, []) := (congrArg (fun t => fxl t 4) e_29).trans rfl
theorem f_River_flowTogether_5 : fx n_River_flowTogether 5 = some (.aload_n 0, 6, []) := (congrArg (fun t => fxl t 5) e_29).trans rfl
theorem f_River_flowTogether_6 : fx n_River_flowTogether 6 = some (.getfield 9, 9, [2, 0]) := (congrArg (fun t => fxl t 6) e_29).trans rfl
theorem f_River_flowTogether_9 : fx n_River_flowTogether 9 = some (.if_icmp .ge 18, 12, [27]) := (congrArg (fun t => fxl t 9) e_29).trans rfl
theorem f_River_flowTogether_12 : fx n_River_flowTogether 12 = some (.iload_n 1, 13, []) := (congrArg (fun t => fxl t 12) e_29).trans rfl
theorem f_River_flowTogether_13 : fx n_River_flowTogether 13 = some (.aload_n 0, 14, []) := (congrArg (fun t => fxl t 13) e_29).trans rfl
theorem f_River_flowTogether_14 : fx n_River_flowTogether 14 = some (.getfield 28, 17, [2, 5]) := (congrArg (fun t => fxl t 14) e_29).trans rfl
theorem f_River_flowTogether_17 : fx n_River_flowTogether 17 = some (.iload_n 2, 18, []) := (congrArg (fun t => fxl t 17) e_29).trans rfl
theorem f_River_flowTogether_18 : fx n_River_flowTogether 18 = some (.iaload, 19, []) := (congrArg (fun t => fxl t 18) e_29).trans rfl
theorem f_River_flowTogether_19 : fx n_River_flowTogether 19 = some (.iadd, 20, []) := (congrArg (fun t => fxl t 19) e_29).trans rfl
theorem f_River_flowTogether_20 : fx n_River_flowTogether 20 = some (.istore_n 1, 21, []) := (congrArg (fun t => fxl t 20) e_29).trans rfl
theorem f_River_flowTogether_21 : fx n_River_flowTogether 21 = some (.iinc 2 1, 24, []) := (congrArg (fun t => fxl t 21) e_29).trans rfl
theorem f_River_flowTogether_24 : fx n_River_flowTogether 24 = some (.goto (-20), 27, [4]) := (congrArg (fun t => fxl t 24) e_29).trans rfl
theorem f_River_flowTogether_27 : fx n_River_flowTogether 27 = some (.iload_n 1, 28, []) := (congrArg (fun t => fxl t 27) e_29).trans rfl
theorem f_River_flowTogether_28 : fx n_River_flowTogether 28 = some (.ireturn, 29, []) := (congrArg (fun t => fxl t 28) e_29).trans rfl
theorem f_River_wildTogether_0 : fx n_River_wildTogether 0 = some (.iconst 0, 1, []) := (congrArg (fun t => fxl t 0) e_30).trans rfl
theorem f_River_wildTogether_1 : fx n_River_wildTogether 1 = some (.istore_n 1, 2, []) := (congrArg (fun t => fxl t 1) e_30).trans rfl
theorem f_River_wildTogether_2 : fx n_River_wildTogether 2 = some (.iconst 0, 3, []) := (congrArg (fun t => fxl t 2) e_30).trans rfl
theorem f_River_wildTogether_3 : fx n_River_wildTogether 3 = some (.istore_n 2, 4, []) := (congrArg (fun t => fxl t 3) e_30).trans rfl
theorem f_River_wildTogether_4 : fx n_River_wildTogether 4 = some (.iload_n 2, 5, []) := (congrArg (fun t => fxl t 4) e_30).trans rfl
theorem f_River_wildTogether_5 : fx n_River_wildTogether 5 = some (.aload_n 0, 6, []) := (congrArg (fun t => fxl t 5) e_30).trans rfl
theorem f_River_wildTogether_6 : fx n_River_wildTogether 6 = some (.getfield 9, 9, [2, 0]) := (congrArg (fun t => fxl t 6) e_30).trans rfl
theorem f_River_wildTogether_9 : fx n_River_wildTogether 9 = some (.if_icmp .ge 18, 12, [27]) := (congrArg (fun t => fxl t 9) e_30).trans rfl
theorem f_River_wildTogether_12 : fx n_River_wildTogether 12 = some (.iload_n 1, 13, []) := (congrArg (fun t => fxl t 12) e_30).trans rfl
theorem f_River_wildTogether_13 : fx n_River_wildTogether 13 = some (.aload_n 0, 14, []) := (congrArg (fun t => fxl t 13) e_30).trans rfl
theorem f_River_wildTogether_14 : fx n_River_wildTogether 14 = some (.getfield 31, 17, [2, 6]) := (congrArg (fun t => fxl t 14) e_30).trans rfl
theorem f_River_wildTogether_17 : fx n_River_wildTogether 17 = some (.iload_n 2, 18, []) := (congrArg (fun t => fxl t 17) e_30).trans rfl
theorem f_River_wildTogether_18 : fx n_River_wildTogether 18 = some (.iaload, 19, []) := (congrArg (fun t => fxl t 18) e_30).trans rfl
theorem f_River_wildTogether_19 : fx n_River_wildTogether 19 = some (.iadd, 20, []) := (congrArg (fun t => fxl t 19) e_30).trans rfl
theorem f_River_wildTogether_20 : fx n_River_wildTogether 20 = some (.istore_n 1, 21, []) := (congrArg (fun t => fxl t 20) e_30).trans rfl
theorem f_River_wildTogether_21 : fx n_River_wildTogether 21 = some (.iinc 2 1, 24, []) := (congrArg (fun t => fxl t 21) e_30).trans rfl
theorem f_River_wildTogether_24 : fx n_River_wildTogether 24 = some (.goto (-20), 27, [4]) := (congrArg (fun t => fxl t 24) e_30).trans rfl
theorem f_River_wildTogether_27 : fx n_River_wildTogether 27 = some (.iload_n 1, 28, []) := (congrArg (fun t => fxl t 27) e_30).trans rfl
theorem f_River_wildTogether_28 : fx n_River_wildTogether 28 = some (.ireturn, 29, []) := (congrArg (fun t => fxl t 28) e_30).trans rfl
theorem f_River_runsIntoSea_0 : fx n_River_runsIntoSea 0 = some (.iconst 0, 1, []) := (congrArg (fun t => fxl t 0) e_31).trans rfl
theorem f_River_runsIntoSea_1 : fx n_River_runsIntoSea 1 = some (.istore_n 1, 2, []) := (congrArg (fun t => fxl t 1) e_31).trans rfl
theorem f_River_runsIntoSea_2 : fx n_River_runsIntoSea 2 = some (.iconst 0, 3, []) := (congrArg (fun t => fxl t 2) e_31).trans rfl
theorem f_River_runsIntoSea_3 : fx n_River_runsIntoSea 3 = some (.istore_n 2, 4, []) := (congrArg (fun t => fxl t 3) e_31).trans rfl
theorem f_River_runsIntoSea_4 : fx n_River_runsIntoSea 4 = some (.iload_n 2, 5, []) := (congrArg (fun t => fxl t 4) e_31).trans rfl
theorem f_River_runsIntoSea_5 : fx n_River_runsIntoSea 5 = some (.aload_n 0, 6, []) := (congrArg (fun t => fxl t 5) e_31).trans rfl
theorem f_River_runsIntoSea_6 : fx n_River_runsIntoSea 6 = some (.getfield 9, 9, [2, 0]) := (congrArg (fun t => fxl t 6) e_31).trans rfl
theorem f_River_runsIntoSea_9 : fx n_River_runsIntoSea 9 = some (.if_icmp .ge 27, 12, [36]) := (congrArg (fun t => fxl t 9) e_31).trans rfl
theorem f_River_runsIntoSea_12 : fx n_River_runsIntoSea 12 = some (.aload_n 0, 13, []) := (congrArg (fun t => fxl t 12) e_31).trans rfl
theorem f_River_runsIntoSea_13 : fx n_River_runsIntoSea 13 = some (.getfield 34, 16, [2, 7]) := (congrArg (fun t => fxl t 13) e_31).trans rfl
theorem f_River_runsIntoSea_16 : fx n_River_runsIntoSea 16 = some (.iload_n 2, 17, []) := (congrArg (fun t => fxl t 16) e_31).trans rfl
theorem f_River_runsIntoSea_17 : fx n_River_runsIntoSea 17 = some (.iaload, 18, []) := (congrArg (fun t => fxl t 17) e_31).trans rfl
theorem f_River_runsIntoSea_18 : fx n_River_runsIntoSea 18 = some (.iconst (-1), 19, []) := (congrArg (fun t => fxl t 18) e_31).trans rfl
theorem f_River_runsIntoSea_19 : fx n_River_runsIntoSea 19 = some (.if_icmp .ne 11, 22, [30]) := (congrArg (fun t => fxl t 19) e_31).trans rfl
theorem f_River_runsIntoSea_22 : fx n_River_runsIntoSea 22 = some (.iload_n 1, 23, []) := (congrArg (fun t => fxl t 22) e_31).trans rfl
theorem f_River_runsIntoSea_23 : fx n_River_runsIntoSea 23 = some (.aload_n 0, 24, []) := (congrArg (fun t => fxl t 23) e_31).trans rfl
theorem f_River_runsIntoSea_24 : fx n_River_runsIntoSea 24 = some (.iload_n 2, 25, []) := (congrArg (fun t => fxl t 24) e_31).trans rfl
theorem f_River_runsIntoSea_25 : fx n_River_runsIntoSea 25 = some (.invokevirtual 77, 28, [19, 1]) := (congrArg (fun t => fxl t 25) e_31).trans rfl
theorem f_River_runsIntoSea_28 : fx n_River_runsIntoSea 28 = some (.iadd, 29, []) := (congrArg (fun t => fxl t 28) e_31).trans rfl
theorem f_River_runsIntoSea_29 : fx n_River_runsIntoSea 29 = some (.istore_n 1, 30, []) := (congrArg (fun t => fxl t 29) e_31).trans rfl
theorem f_River_runsIntoSea_30 : fx n_River_runsIntoSea 30 = some (.iinc 2 1, 33, []) := (congrArg (fun t => fxl t 30) e_31).trans rfl
theorem f_River_runsIntoSea_33 : fx n_River_runsIntoSea 33 = some (.goto (-29), 36, [4]) := (congrArg (fun t => fxl t 33) e_31).trans rfl
theorem f_River_runsIntoSea_36 : fx n_River_runsIntoSea 36 = some (.iload_n 1, 37, []) := (congrArg (fun t => fxl t 36) e_31).trans rfl
theorem f_River_runsIntoSea_37 : fx n_River_runsIntoSea 37 = some (.ireturn, 38, []) := (congrArg (fun t => fxl t 37) e_31).trans rfl
theorem f_Search_isAsked_0 : fx n_Search_isAsked 0 = some (.iload_n 0, 1, []) := (congrArg (fun t => fxl t 0) e_32).trans rfl
theorem f_Search_isAsked_1 : fx n_Search_isAsked 1 = some (.ifCond .eq 22, 4, [23]) := (congrArg (fun t => fxl t 1) e_32).trans rfl
theorem f_Search_isAsked_4 : fx n_Search_isAsked 4 = some (.iload_n 0, 5, []) := (congrArg (fun t => fxl t 4) e_32).trans rfl
theorem f_Search_isAsked_5 : fx n_Search_isAsked 5 = some (.iconst 1, 6, []) := (congrArg (fun t => fxl t 5) e_32).trans rfl
theorem f_Search_isAsked_6 : fx n_Search_isAsked 6 = some (.if_icmp .eq 17, 9, [23]) := (congrArg (fun t => fxl t 6) e_32).trans rfl
theorem f_Search_isAsked_9 : fx n_Search_isAsked 9 = some (.iload_n 0, 10, []) := (congrArg (fun t => fxl t 9) e_32).trans rfl
theorem f_Search_isAsked_10 : fx n_Search_isAsked 10 = some (.bipush 10, 12, []) := (congrArg (fun t => fxl t 10) e_32).trans rfl
theorem f_Search_isAsked_12 : fx n_Search_isAsked 12 = some (.if_icmp .lt 15, 15, [27]) := (congrArg (fun t => fxl t 12) e_32).trans rfl
theorem f_Search_isAsked_15 : fx n_Search_isAsked 15 = some (.iload_n 0, 16, []) := (congrArg (fun t => fxl t 15) e_32).trans rfl
theorem f_Search_isAsked_16 : fx n_Search_isAsked 16 = some (.bipush 10, 18, []) := (congrArg (fun t => fxl t 16) e_32).trans rfl
theorem f_Search_isAsked_18 : fx n_Search_isAsked 18 = some (.iload_n 1, 19, []) := (congrArg (fun t => fxl t 18) e_32).trans rfl
theorem f_Search_isAsked_19 : fx n_Search_isAsked 19 = some (.iadd, 20, []) := (congrArg (fun t => fxl t 19) e_32).trans rfl
theorem f_Search_isAsked_20 : fx n_Search_isAsked 20 = some (.if_icmp .ge 7, 23, [27]) := (congrArg (fun t => fxl t 20) e_32).trans rfl
theorem f_Search_isAsked_23 : fx n_Search_isAsked 23 = some (.iconst 1, 24, []) := (congrArg (fun t => fxl t 23) e_32).trans rfl
theorem f_Search_isAsked_24 : fx n_Search_isAsked 24 = some (.goto 4, 27, [28]) := (congrArg (fun t => fxl t 24) e_32).trans rfl
theorem f_Search_isAsked_27 : fx n_Search_isAsked 27 = some (.iconst 0, 28, []) := (congrArg (fun t => fxl t 27) e_32).trans rfl
theorem f_Search_isAsked_28 : fx n_Search_isAsked 28 = some (.ireturn, 29, []) := (congrArg (fun t => fxl t 28) e_32).trans rfl
theorem f_Search_findPlan_0 : fx n_Search_findPlan 0 = some (.aload_n 0, 1, []) := (congrArg (fun t => fxl t 0) e_33).trans rfl
theorem f_Search_findPlan_1 : fx n_Search_findPlan 1 = some (.aload_n 1, 2, []) := (congrArg (fun t => fxl t 1) e_33).trans rfl
theorem f_Search_findPlan_2 : fx n_Search_findPlan 2 = some (.getfield 40, 5, [2, 0]) := (congrArg (fun t => fxl t 2) e_33).trans rfl
theorem f_Search_findPlan_5 : fx n_Search_findPlan 5 = some (.putfield 26, 8, [3, 4]) := (congrArg (fun t => fxl t 5) e_33).trans rfl
theorem f_Search_findPlan_8 : fx n_Search_findPlan 8 = some (.aload_n 0, 9, []) := (congrArg (fun t => fxl t 8) e_33).trans rfl
theorem f_Search_findPlan_9 : fx n_Search_findPlan 9 = some (.iload_n 3, 10, []) := (congrArg (fun t => fxl t 9) e_33).trans rfl
theorem f_Search_findPlan_10 : fx n_Search_findPlan 10 = some (.putfield 30, 13, [3, 5]) := (congrArg (fun t => fxl t 10) e_33).trans rfl
theorem f_Search_findPlan_13 : fx n_Search_findPlan 13 = some (.aload_n 0, 14, []) := (congrArg (fun t => fxl t 13) e_33).trans rfl
theorem f_Search_findPlan_14 : fx n_Search_findPlan 14 = some (.iconst 0, 15, []) := (congrArg (fun t => fxl t 14) e_33).trans rfl
theorem f_Search_findPlan_15 : fx n_Search_findPlan 15 = some (.putfield 33, 18, [3, 6]) := (congrArg (fun t => fxl t 15) e_33).trans rfl
theorem f_Search_findPlan_18 : fx n_Search_findPlan 18 = some (.iconst 0, 19, []) := (congrArg (fun t => fxl t 18) e_33).trans rfl
theorem f_Search_findPlan_19 : fx n_Search_findPlan 19 = some (.istore 4, 21, []) := (congrArg (fun t => fxl t 19) e_33).trans rfl
theorem f_Search_findPlan_21 : fx n_Search_findPlan 21 = some (.iload 4, 23, []) := (congrArg (fun t => fxl t 21) e_33).trans rfl
theorem f_Search_findPlan_23 : fx n_Search_findPlan 23 = some (.aload_n 0, 24, []) := (congrArg (fun t => fxl t 23) e_33).trans rfl
theorem f_Search_findPlan_24 : fx n_Search_findPlan 24 = some (.getfield 26, 27, [3, 4]) := (congrArg (fun t => fxl t 24) e_33).trans rfl
theorem f_Search_findPlan_27 : fx n_Search_findPlan 27 = some (.if_icmp .ge 73, 30, [100]) := (congrArg (fun t => fxl t 27) e_33).trans rfl
theorem f_Search_findPlan_30 : fx n_Search_findPlan 30 = some (.aload_n 1, 31, []) := (congrArg (fun t => fxl t 30) e_33).trans rfl
theorem f_Search_findPlan_31 : fx n_Search_findPlan 31 = some (.iload 4, 33, []) := (congrArg (fun t => fxl t 31) e_33).trans rfl
theorem f_Search_findPlan_33 : fx n_Search_findPlan 33 = some (.invokevirtual 43, 36, [22, 1]) := (congrArg (fun t => fxl t 33) e_33).trans rfl
theorem f_Search_findPlan_36 : fx n_Search_findPlan 36 = some (.iconst 1, 37, []) := (congrArg (fun t => fxl t 36) e_33).trans rfl
theorem f_Search_findPlan_37 : fx n_Search_findPlan 37 = some (.iload_n 2, 38, []) := (congrArg (fun t => fxl t 37) e_33).trans rfl
theorem f_Search_findPlan_38 : fx n_Search_findPlan 38 = some (.ishl, 39, []) := (congrArg (fun t => fxl t 38) e_33).trans rfl
theorem f_Search_findPlan_39 : fx n_Search_findPlan 39 = some (.iconst (-1), 40, []) := (congrArg (fun t => fxl t 39) e_33).trans rfl
theorem f_Search_findPlan_40 : fx n_Search_findPlan 40 = some (.ixor, 41, []) := (congrArg (fun t => fxl t 40) e_33).trans rfl
theorem f_Search_findPlan_41 : fx n_Search_findPlan 41 = some (.iand, 42, []) := (congrArg (fun t => fxl t 41) e_33).trans rfl
theorem f_Search_findPlan_42 : fx n_Search_findPlan 42 = some (.invokestatic 47, 45, [151, 1]) := (congrArg (fun t => fxl t 42) e_33).trans rfl
theorem f_Search_findPlan_45 : fx n_Search_findPlan 45 = some (.istore 5, 47, []) := (congrArg (fun t => fxl t 45) e_33).trans rfl
theorem f_Search_findPlan_47 : fx n_Search_findPlan 47 = some (.iconst 0, 48, []) := (congrArg (fun t => fxl t 47) e_33).trans rfl
theorem f_Search_findPlan_48 : fx n_Search_findPlan 48 = some (.istore 6, 50, []) := (congrArg (fun t => fxl t 48) e_33).trans rfl
theorem f_Search_findPlan_50 : fx n_Search_findPlan 50 = some (.iload 6, 52, []) := (congrArg (fun t => fxl t 50) e_33).trans rfl
theorem f_Search_findPlan_52 : fx n_Search_findPlan 52 = some (.iconst 1, 53, []) := (congrArg (fun t => fxl t 52) e_33).trans rfl
theorem f_Search_findPlan_53 : fx n_Search_findPlan 53 = some (.aload_n 0, 54, []) := (congrArg (fun t => fxl t 53) e_33).trans rfl
theorem f_Search_findPlan_54 : fx n_Search_findPlan 54 = some (.getfield 30, 57, [3, 5]) := (congrArg (fun t => fxl t 54) e_33).trans rfl
theorem f_Search_findPlan_57 : fx n_Search_findPlan 57 = some (.ishl, 58, []) := (congrArg (fun t => fxl t 57) e_33).trans rfl
theorem f_Search_findPlan_58 : fx n_Search_findPlan 58 = some (.if_icmp .ge 36, 61, [94]) := (congrArg (fun t => fxl t 58) e_33).trans rfl
theorem f_Search_findPlan_61 : fx n_Search_findPlan 61 = some (.aload_n 0, 62, []) := (congrArg (fun t => fxl t 61) e_33).trans rfl
theorem f_Search_findPlan_62 : fx n_Search_findPlan 62 = some (.getfield 11, 65, [3, 0]) := (congrArg (fun t => fxl t 62) e_33).trans rfl
theorem f_Search_findPlan_65 : fx n_Search_findPlan 65 = some (.iload 4, 67, []) := (congrArg (fun t => fxl t 65) e_33).trans rfl
theorem f_Search_findPlan_67 : fx n_Search_findPlan 67 = some (.aaload, 68, []) := (congrArg (fun t => fxl t 67) e_33).trans rfl
theorem f_Search_findPlan_68 : fx n_Search_findPlan 68 = some (.iload 6, 70, []) := (congrArg (fun t => fxl t 68) e_33).trans rfl
theorem f_Search_findPlan_70 : fx n_Search_findPlan 70 = some (.aload_n 1, 71, []) := (congrArg (fun t => fxl t 70) e_33).trans rfl
theorem f_Search_findPlan_71 : fx n_Search_findPlan 71 = some (.iload 4, 73, []) := (congrArg (fun t => fxl t 71) e_33).trans rfl
theorem f_Search_findPlan_73 : fx n_Search_findPlan 73 = some (.aload_n 0, 74, []) := (congrArg (fun t => fxl t 73) e_33).trans rfl
theorem f_Search_findPlan_74 : fx n_Search_findPlan 74 = some (.aload_n 1, 75, []) := (congrArg (fun t => fxl t 74) e_33).trans rfl
theorem f_Search_findPlan_75 : fx n_Search_findPlan 75 = some (.iload 4, 77, []) := (congrArg (fun t => fxl t 75) e_33).trans rfl
theorem f_Search_findPlan_77 : fx n_Search_findPlan 77 = some (.iload 5, 79, []) := (congrArg (fun t => fxl t 77) e_33).trans rfl
theorem f_Search_findPlan_79 : fx n_Search_findPlan 79 = some (.iload 6, 81, []) := (congrArg (fun t => fxl t 79) e_33).trans rfl
theorem f_Search_findPlan_81 : fx n_Search_findPlan 81 = some (.invokevirtual 52, 84, [35, 4]) := (congrArg (fun t => fxl t 81) e_33).trans rfl
theorem f_Search_findPlan_84 : fx n_Search_findPlan 84 = some (.invokestatic 56, 87, [36, 3]) := (congrArg (fun t => fxl t 84) e_33).trans rfl
theorem f_Search_findPlan_87 : fx n_Search_findPlan 87 = some (.iastore, 88, []) := (congrArg (fun t => fxl t 87) e_33).trans rfl
theorem f_Search_findPlan_88 : fx n_Search_findPlan 88 = some (.iinc 6 1, 91, []) := (congrArg (fun t => fxl t 88) e_33).trans rfl
theorem f_Search_findPlan_91 : fx n_Search_findPlan 91 = some (.goto (-41), 94, [50]) := (congrArg (fun t => fxl t 91) e_33).trans rfl
theorem f_Search_findPlan_94 : fx n_Search_findPlan 94 = some (.iinc 4 1, 97, []) := (congrArg (fun t => fxl t 94) e_33).trans rfl
theorem f_Search_findPlan_97 : fx n_Search_findPlan 97 = some (.goto (-76), 100, [21]) := (congrArg (fun t => fxl t 97) e_33).trans rfl
theorem f_Search_findPlan_100 : fx n_Search_findPlan 100 = some (.aload_n 0, 101, []) := (congrArg (fun t => fxl t 100) e_33).trans rfl
theorem f_Search_findPlan_101 : fx n_Search_findPlan 101 = some (.invokevirtual 60, 104, [37, 0]) := (congrArg (fun t => fxl t 101) e_33).trans rfl
theorem f_Search_findPlan_104 : fx n_Search_findPlan 104 = some (.return_, 105, []) := (congrArg (fun t => fxl t 104) e_33).trans rfl
theorem f_Search_findPlaces_0 : fx n_Search_findPlaces 0 = some (.aload_n 0, 1, []) := (congrArg (fun t => fxl t 0) e_34).trans rfl
theorem f_Search_findPlaces_1 : fx n_Search_findPlaces 1 = some (.aload_n 1, 2, []) := (congrArg (fun t => fxl t 1) e_34).trans rfl
theorem f_Search_findPlaces_2 : fx n_Search_findPlaces 2 = some (.getfield 40, 5, [2, 0]) := (congrArg (fun t => fxl t 2) e_34).trans rfl
theorem f_Search_findPlaces_5 : fx n_Search_findPlaces 5 = some (.putfield 26, 8, [3, 4]) := (congrArg (fun t => fxl t 5) e_34).trans rfl
theorem f_Search_findPlaces_8 : fx n_Search_findPlaces 8 = some (.aload_n 0, 9, []) := (congrArg (fun t => fxl t 8) e_34).trans rfl
theorem f_Search_findPlaces_9 : fx n_Search_findPlaces 9 = some (.aload_n 1, 10, []) := (congrArg (fun t => fxl t 9) e_34).trans rfl
theorem f_Search_findPlaces_10 : fx n_Search_findPlaces 10 = some (.getfield 63, 13, [2, 1]) := (congrArg (fun t => fxl t 10) e_34).trans rfl
theorem f_Search_findPlaces_13 : fx n_Search_findPlaces 13 = some (.putfield 30, 16, [3, 5]) := (congrArg (fun t => fxl t 13) e_34).trans rfl
theorem f_Search_findPlaces_16 : fx n_Search_findPlaces 16 = some (.aload_n 0, 17, []) := (congrArg (fun t => fxl t 16) e_34).trans rfl
theorem f_Search_findPlaces_17 : fx n_Search_findPlaces 17 = some (.iconst 1, 18, []) := (congrArg (fun t => fxl t 17) e_34).trans rfl
theorem f_Search_findPlaces_18 : fx n_Search_findPlaces 18 = some (.putfield 33, 21, [3, 6]) := (congrArg (fun t => fxl t 18) e_34).trans rfl
theorem f_Search_findPlaces_21 : fx n_Search_findPlaces 21 = some (.iconst 0, 22, []) := (congrArg (fun t => fxl t 21) e_34).trans rfl
theorem f_Search_findPlaces_22 : fx n_Search_findPlaces 22 = some (.istore_n 2, 23, []) := (congrArg (fun t => fxl t 22) e_34).trans rfl
theorem f_Search_findPlaces_23 : fx n_Search_findPlaces 23 = some (.iload_n 2, 24, []) := (congrArg (fun t => fxl t 23) e_34).trans rfl
theorem f_Search_findPlaces_24 : fx n_Search_findPlaces 24 = some (.aload_n 0, 25, []) := (congrArg (fun t => fxl t 24) e_34).trans rfl
theorem f_Search_findPlaces_25 : fx n_Search_findPlaces 25 = some (.getfield 26, 28, [3, 4]) := (congrArg (fun t => fxl t 25) e_34).trans rfl
theorem f_Search_findPlaces_28 : fx n_Search_findPlaces 28 = some (.if_icmp .ge 69, 31, [97]) := (congrArg (fun t => fxl t 28) e_34).trans rfl
theorem f_Search_findPlaces_31 : fx n_Search_findPlaces 31 = some (.iconst 0, 32, []) := (congrArg (fun t => fxl t 31) e_34).trans rfl
theorem f_Search_findPlaces_32 : fx n_Search_findPlaces 32 = some (.istore_n 3, 33, []) := (congrArg (fun t => fxl t 32) e_34).trans rfl
theorem f_Search_findPlaces_33 : fx n_Search_findPlaces 33 = some (.iload_n 3, 34, []) := (congrArg (fun t => fxl t 33) e_34).trans rfl
theorem f_Search_findPlaces_34 : fx n_Search_findPlaces 34 = some (.iconst 1, 35, []) := (congrArg (fun t => fxl t 34) e_34).trans rfl
theorem f_Search_findPlaces_35 : fx n_Search_findPlaces 35 = some (.aload_n 0, 36, []) := (congrArg (fun t => fxl t 35) e_34).trans rfl
theorem f_Search_findPlaces_36 : fx n_Search_findPlaces 36 = some (.getfield 30, 39, [3, 5]) := (congrArg (fun t => fxl t 36) e_34).trans rfl
theorem f_Search_findPlaces_39 : fx n_Search_findPlaces 39 = some (.ishl, 40, []) := (congrArg (fun t => fxl t 39) e_34).trans rfl
theorem f_Search_findPlaces_40 : fx n_Search_findPlaces 40 = some (.if_icmp .ge 51, 43, [91]) := (congrArg (fun t => fxl t 40) e_34).trans rfl
theorem f_Search_findPlaces_43 : fx n_Search_findPlaces 43 = some (.aload_n 1, 44, []) := (congrArg (fun t => fxl t 43) e_34).trans rfl
theorem f_Search_findPlaces_44 : fx n_Search_findPlaces 44 = some (.getfield 66, 47, [2, 4]) := (congrArg (fun t => fxl t 44) e_34).trans rfl
theorem f_Search_findPlaces_47 : fx n_Search_findPlaces 47 = some (.iload_n 2, 48, []) := (congrArg (fun t => fxl t 47) e_34).trans rfl
theorem f_Search_findPlaces_48 : fx n_Search_findPlaces 48 = some (.iaload, 49, []) := (congrArg (fun t => fxl t 48) e_34).trans rfl
theorem f_Search_findPlaces_49 : fx n_Search_findPlaces 49 = some (.aload_n 1, 50, []) := (congrArg (fun t => fxl t 49) e_34).trans rfl
theorem f_Search_findPlaces_50 : fx n_Search_findPlaces 50 = some (.getfield 69, 53, [2, 6]) := (congrArg (fun t => fxl t 50) e_34).trans rfl
theorem f_Search_findPlaces_53 : fx n_Search_findPlaces 53 = some (.iload_n 2, 54, []) := (congrArg (fun t => fxl t 53) e_34).trans rfl
theorem f_Search_findPlaces_54 : fx n_Search_findPlaces 54 = some (.iaload, 55, []) := (congrArg (fun t => fxl t 54) e_34).trans rfl
theorem f_Search_findPlaces_55 : fx n_Search_findPlaces 55 = some (.aload_n 1, 56, []) := (congrArg (fun t => fxl t 55) e_34).trans rfl
theorem f_Search_findPlaces_56 : fx n_Search_findPlaces 56 = some (.getfield 72, 59, [2, 2]) := (congrArg (fun t => fxl t 56) e_34).trans rfl
theorem f_Search_findPlaces_59 : fx n_Search_findPlaces 59 = some (.iconst 1, 60, []) := (congrArg (fun t => fxl t 59) e_34).trans rfl
theorem f_Search_findPlaces_60 : fx n_Search_findPlaces 60 = some (.iadd, 61, []) := (congrArg (fun t => fxl t 60) e_34).trans rfl
theorem f_Search_findPlaces_61 : fx n_Search_findPlaces 61 = some (.iload_n 3, 62, []) := (congrArg (fun t => fxl t 61) e_34).trans rfl
theorem f_Search_findPlaces_62 : fx n_Search_findPlaces 62 = some (.invokestatic 47, 65, [151, 1]) := (congrArg (fun t => fxl t 62) e_34).trans rfl
theorem f_Search_findPlaces_65 : fx n_Search_findPlaces 65 = some (.invokestatic 75, 68, [82, 4]) := (congrArg (fun t => fxl t 65) e_34).trans rfl
theorem f_Search_findPlaces_68 : fx n_Search_findPlaces 68 = some (.istore 4, 70, []) := (congrArg (fun t => fxl t 68) e_34).trans rfl
theorem f_Search_findPlaces_70 : fx n_Search_findPlaces 70 = some (.aload_n 0, 71, []) := (congrArg (fun t => fxl t 70) e_34).trans rfl
theorem f_Search_findPlaces_71 : fx n_Search_findPlaces 71 = some (.getfield 11, 74, [3, 0]) := (congrArg (fun t => fxl t 71) e_34).trans rfl
theorem f_Search_findPlaces_74 : fx n_Search_findPlaces 74 = some (.iload_n 2, 75, []) := (congrArg (fun t => fxl t 74) e_34).trans rfl
theorem f_Search_findPlaces_75 : fx n_Search_findPlaces 75 = some (.aaload, 76, []) := (congrArg (fun t => fxl t 75) e_34).trans rfl
theorem f_Search_findPlaces_76 : fx n_Search_findPlaces 76 = some (.iload_n 3, 77, []) := (congrArg (fun t => fxl t 76) e_34).trans rfl
theorem f_Search_findPlaces_77 : fx n_Search_findPlaces 77 = some (.aload_n 1, 78, []) := (congrArg (fun t => fxl t 77) e_34).trans rfl
theorem f_Search_findPlaces_78 : fx n_Search_findPlaces 78 = some (.iload_n 2, 79, []) := (congrArg (fun t => fxl t 78) e_34).trans rfl
theorem f_Search_findPlaces_79 : fx n_Search_findPlaces 79 = some (.iload 4, 81, []) := (congrArg (fun t => fxl t 79) e_34).trans rfl
theorem f_Search_findPlaces_81 : fx n_Search_findPlaces 81 = some (.invokestatic 56, 84, [36, 3]) := (congrArg (fun t => fxl t 81) e_34).trans rfl
theorem f_Search_findPlaces_84 : fx n_Search_findPlaces 84 = some (.iastore, 85, []) := (congrArg (fun t => fxl t 84) e_34).trans rfl
theorem f_Search_findPlaces_85 : fx n_Search_findPlaces 85 = some (.iinc 3 1, 88, []) := (congrArg (fun t => fxl t 85) e_34).trans rfl
theorem f_Search_findPlaces_88 : fx n_Search_findPlaces 88 = some (.goto (-55), 91, [33]) := (congrArg (fun t => fxl t 88) e_34).trans rfl
theorem f_Search_findPlaces_91 : fx n_Search_findPlaces 91 = some (.iinc 2 1, 94, []) := (congrArg (fun t => fxl t 91) e_34).trans rfl
theorem f_Search_findPlaces_94 : fx n_Search_findPlaces 94 = some (.goto (-71), 97, [23]) := (congrArg (fun t => fxl t 94) e_34).trans rfl
theorem f_Search_findPlaces_97 : fx n_Search_findPlaces 97 = some (.aload_n 0, 98, []) := (congrArg (fun t => fxl t 97) e_34).trans rfl
theorem f_Search_findPlaces_98 : fx n_Search_findPlaces 98 = some (.invokevirtual 60, 101, [37, 0]) := (congrArg (fun t => fxl t 98) e_34).trans rfl
theorem f_Search_findPlaces_101 : fx n_Search_findPlaces 101 = some (.return_, 102, []) := (congrArg (fun t => fxl t 101) e_34).trans rfl
theorem f_Search_wildBehind_0 : fx n_Search_wildBehind 0 = some (.aload_n 1, 1, []) := (congrArg (fun t => fxl t 0) e_35).trans rfl
theorem f_Search_wildBehind_1 : fx n_Search_wildBehind 1 = some (.getfield 69, 4, [2, 6]) := (congrArg (fun t => fxl t 1) e_35).trans rfl
theorem f_Search_wildBehind_4 : fx n_Search_wildBehind 4 = some (.iload_n 2, 5, []) := (congrArg (fun t => fxl t 4) e_35).trans rfl
theorem f_Search_wildBehind_5 : fx n_Search_wildBehind 5 = some (.iaload, 6, []) := (congrArg (fun t => fxl t 5) e_35).trans rfl
theorem f_Search_wildBehind_6 : fx n_Search_wildBehind 6 = some (.istore 5, 8, []) := (congrArg (fun t => fxl t 6) e_35).trans rfl
theorem f_Search_wildBehind_8 : fx n_Search_wildBehind 8 = some (.iconst 0, 9, []) := (congrArg (fun t => fxl t 8) e_35).trans rfl
theorem f_Search_wildBehind_9 : fx n_Search_wildBehind 9 = some (.istore 6, 11, []) := (congrArg (fun t => fxl t 9) e_35).trans rfl
theorem f_Search_wildBehind_11 : fx n_Search_wildBehind 11 = some (.iload 6, 13, []) := (congrArg (fun t => fxl t 11) e_35).trans rfl
theorem f_Search_wildBehind_13 : fx n_Search_wildBehind 13 = some (.aload_n 0, 14, []) := (congrArg (fun t => fxl t 13) e_35).trans rfl
theorem f_Search_wildBehind_14 : fx n_Search_wildBehind 14 = some (.getfield 30, 17, [3, 5]) := (congrArg (fun t => fxl t 14) e_35).trans rfl
theorem f_Search_wildBehind_17 : fx n_Search_wildBehind 17 = some (.if_icmp .ge 44, 20, [61]) := (congrArg (fun t => fxl t 17) e_35).trans rfl
theorem f_Search_wildBehind_20 : fx n_Search_wildBehind 20 = some (.iload_n 3, 21, []) := (congrArg (fun t => fxl t 20) e_35).trans rfl
theorem f_Search_wildBehind_21 : fx n_Search_wildBehind 21 = some (.iload 4, 23, []) := (congrArg (fun t => fxl t 21) e_35).trans rfl
theorem f_Search_wildBehind_23 : fx n_Search_wildBehind 23 = some (.iload 6, 25, []) := (congrArg (fun t => fxl t 23) e_35).trans rfl
theorem f_Search_wildBehind_25 : fx n_Search_wildBehind 25 = some (.ishr, 26, []) := (congrArg (fun t => fxl t 25) e_35).trans rfl
theorem f_Search_wildBehind_26 : fx n_Search_wildBehind 26 = some (.iconst 1, 27, []) := (congrArg (fun t => fxl t 26) e_35).trans rfl
theorem f_Search_wildBehind_27 : fx n_Search_wildBehind 27 = some (.iand, 28, []) := (congrArg (fun t => fxl t 27) e_35).trans rfl
theorem f_Search_wildBehind_28 : fx n_Search_wildBehind 28 = some (.iadd, 29, []) := (congrArg (fun t => fxl t 28) e_35).trans rfl
theorem f_Search_wildBehind_29 : fx n_Search_wildBehind 29 = some (.istore 7, 31, []) := (congrArg (fun t => fxl t 29) e_35).trans rfl
theorem f_Search_wildBehind_31 : fx n_Search_wildBehind 31 = some (.aload_n 1, 32, []) := (congrArg (fun t => fxl t 31) e_35).trans rfl
theorem f_Search_wildBehind_32 : fx n_Search_wildBehind 32 = some (.getfield 66, 35, [2, 4]) := (congrArg (fun t => fxl t 32) e_35).trans rfl
theorem f_Search_wildBehind_35 : fx n_Search_wildBehind 35 = some (.iload_n 2, 36, []) := (congrArg (fun t => fxl t 35) e_35).trans rfl
theorem f_Search_wildBehind_36 : fx n_Search_wildBehind 36 = some (.iaload, 37, []) := (congrArg (fun t => fxl t 36) e_35).trans rfl
theorem f_Search_wildBehind_37 : fx n_Search_wildBehind 37 = some (.iload 5, 39, []) := (congrArg (fun t => fxl t 37) e_35).trans rfl
theorem f_Search_wildBehind_39 : fx n_Search_wildBehind 39 = some (.aload_n 1, 40, []) := (congrArg (fun t => fxl t 39) e_35).trans rfl
theorem f_Search_wildBehind_40 : fx n_Search_wildBehind 40 = some (.getfield 72, 43, [2, 2]) := (congrArg (fun t => fxl t 40) e_35).trans rfl
theorem f_Search_wildBehind_43 : fx n_Search_wildBehind 43 = some (.iconst 1, 44, []) := (congrArg (fun t => fxl t 43) e_35).trans rfl
theorem f_Search_wildBehind_44 : fx n_Search_wildBehind 44 = some (.iadd, 45, []) := (congrArg (fun t => fxl t 44) e_35).trans rfl
theorem f_Search_wildBehind_45 : fx n_Search_wildBehind 45 = some (.iload 6, 47, []) := (congrArg (fun t => fxl t 45) e_35).trans rfl
theorem f_Search_wildBehind_47 : fx n_Search_wildBehind 47 = some (.iadd, 48, []) := (congrArg (fun t => fxl t 47) e_35).trans rfl
theorem f_Search_wildBehind_48 : fx n_Search_wildBehind 48 = some (.iload 7, 50, []) := (congrArg (fun t => fxl t 48) e_35).trans rfl
theorem f_Search_wildBehind_50 : fx n_Search_wildBehind 50 = some (.invokestatic 75, 53, [82, 4]) := (congrArg (fun t => fxl t 50) e_35).trans rfl
theorem f_Search_wildBehind_53 : fx n_Search_wildBehind 53 = some (.istore 5, 55, []) := (congrArg (fun t => fxl t 53) e_35).trans rfl
theorem f_Search_wildBehind_55 : fx n_Search_wildBehind 55 = some (.iinc 6 1, 58, []) := (congrArg (fun t => fxl t 55) e_35).trans rfl
theorem f_Search_wildBehind_58 : fx n_Search_wildBehind 58 = some (.goto (-47), 61, [11]) := (congrArg (fun t => fxl t 58) e_35).trans rfl
theorem f_Search_wildBehind_61 : fx n_Search_wildBehind 61 = some (.iload 5, 63, []) := (congrArg (fun t => fxl t 61) e_35).trans rfl
theorem f_Search_wildBehind_63 : fx n_Search_wildBehind 63 = some (.ireturn, 64, []) := (congrArg (fun t => fxl t 63) e_35).trans rfl
theorem f_Search_scoreOf_0 : fx n_Search_scoreOf 0 = some (.aload_n 0, 1, []) := (congrArg (fun t => fxl t 0) e_36).trans rfl
theorem f_Search_scoreOf_1 : fx n_Search_scoreOf 1 = some (.getfield 66, 4, [2, 4]) := (congrArg (fun t => fxl t 1) e_36).trans rfl
theorem f_Search_scoreOf_4 : fx n_Search_scoreOf 4 = some (.iload_n 1, 5, []) := (congrArg (fun t => fxl t 4) e_36).trans rfl
theorem f_Search_scoreOf_5 : fx n_Search_scoreOf 5 = some (.iaload, 6, []) := (congrArg (fun t => fxl t 5) e_36).trans rfl
theorem f_Search_scoreOf_6 : fx n_Search_scoreOf 6 = some (.aload_n 0, 7, []) := (congrArg (fun t => fxl t 6) e_36).trans rfl
theorem f_Search_scoreOf_7 : fx n_Search_scoreOf 7 = some (.getfield 79, 10, [2, 8]) := (congrArg (fun t => fxl t 7) e_36).trans rfl
theorem f_Search_scoreOf_10 : fx n_Search_scoreOf 10 = some (.iload_n 1, 11, []) := (congrArg (fun t => fxl t 10) e_36).trans rfl
theorem f_Search_scoreOf_11 : fx n_Search_scoreOf 11 = some (.iaload, 12, []) := (congrArg (fun t => fxl t 11) e_36).trans rfl
theorem f_Search_scoreOf_12 : fx n_Search_scoreOf 12 = some (.iload_n 2, 13, []) := (congrArg (fun t => fxl t 12) e_36).trans rfl
theorem f_Search_scoreOf_13 : fx n_Search_scoreOf 13 = some (.invokestatic 82, 16, [81, 3]) := (congrArg (fun t => fxl t 13) e_36).trans rfl
theorem f_Search_scoreOf_16 : fx n_Search_scoreOf 16 = some (.ifCond .eq 10, 19, [26]) := (congrArg (fun t => fxl t 16) e_36).trans rfl
theorem f_Search_scoreOf_19 : fx n_Search_scoreOf 19 = some (.bipush 100, 21, []) := (congrArg (fun t => fxl t 19) e_36).trans rfl
theorem f_Search_scoreOf_21 : fx n_Search_scoreOf 21 = some (.iload_n 2, 22, []) := (congrArg (fun t => fxl t 21) e_36).trans rfl
theorem f_Search_scoreOf_22 : fx n_Search_scoreOf 22 = some (.iadd, 23, []) := (congrArg (fun t => fxl t 22) e_36).trans rfl
theorem f_Search_scoreOf_23 : fx n_Search_scoreOf 23 = some (.goto 4, 26, [27]) := (congrArg (fun t => fxl t 23) e_36).trans rfl
theorem f_Search_scoreOf_26 : fx n_Search_scoreOf 26 = some (.iload_n 2, 27, []) := (congrArg (fun t => fxl t 26) e_36).trans rfl
theorem f_Search_scoreOf_27 : fx n_Search_scoreOf 27 = some (.ireturn, 28, []) := (congrArg (fun t => fxl t 27) e_36).trans rfl
theorem f_Search_find_0 : fx n_Search_find 0 = some (.iconst 0, 1, []) := (congrArg (fun t => fxl t 0) e_37).trans rfl
theorem f_Search_find_1 : fx n_Search_find 1 = some (.istore_n 1, 2, []) := (congrArg (fun t => fxl t 1) e_37).trans rfl
theorem f_Search_find_2 : fx n_Search_find 2 = some (.iconst 0, 3, []) := (congrArg (fun t => fxl t 2) e_37).trans rfl
theorem f_Search_find_3 : fx n_Search_find 3 = some (.istore_n 2, 4, []) := (congrArg (fun t => fxl t 3) e_37).trans rfl
theorem f_Search_find_4 : fx n_Search_find 4 = some (.iload_n 2, 5, []) := (congrArg (fun t => fxl t 4) e_37).trans rfl
theorem f_Search_find_5 : fx n_Search_find 5 = some (.aload_n 0, 6, []) := (congrArg (fun t => fxl t 5) e_37).trans rfl
theorem f_Search_find_6 : fx n_Search_find 6 = some (.getfield 26, 9, [3, 4]) := (congrArg (fun t => fxl t 6) e_37).trans rfl
theorem f_Search_find_9 : fx n_Search_find 9 = some (.if_icmp .ge 27, 12, [36]) := (congrArg (fun t => fxl t 9) e_37).trans rfl
theorem f_Search_find_12 : fx n_Search_find 12 = some (.aload_n 0, 13, []) := (congrArg (fun t => fxl t 12) e_37).trans rfl
theorem f_Search_find_13 : fx n_Search_find 13 = some (.getfield 16, 16, [3, 1]) := (congrArg (fun t => fxl t 13) e_37).trans rfl
theorem f_Search_find_16 : fx n_Search_find 16 = some (.iload_n 2, 17, []) := (congrArg (fun t => fxl t 16) e_37).trans rfl
theorem f_Search_find_17 : fx n_Search_find 17 = some (.iconst 0, 18, []) := (congrArg (fun t => fxl t 17) e_37).trans rfl
theorem f_Search_find_18 : fx n_Search_find 18 = some (.iastore, 19, []) := (congrArg (fun t => fxl t 18) e_37).trans rfl
theorem f_Search_find_19 : fx n_Search_find 19 = some (.iload_n 1, 20, []) := (congrArg (fun t => fxl t 19) e_37).trans rfl
theorem f_Search_find_20 : fx n_Search_find 20 = some (.aload_n 0, 21, []) := (congrArg (fun t => fxl t 20) e_37).trans rfl
theorem f_Search_find_21 : fx n_Search_find 21 = some (.getfield 11, 24, [3, 0]) := (congrArg (fun t => fxl t 21) e_37).trans rfl
theorem f_Search_find_24 : fx n_Search_find 24 = some (.iload_n 2, 25, []) := (congrArg (fun t => fxl t 24) e_37).trans rfl
theorem f_Search_find_25 : fx n_Search_find 25 = some (.aaload, 26, []) := (congrArg (fun t => fxl t 25) e_37).trans rfl
theorem f_Search_find_26 : fx n_Search_find 26 = some (.iconst 0, 27, []) := (congrArg (fun t => fxl t 26) e_37).trans rfl
theorem f_Search_find_27 : fx n_Search_find 27 = some (.iaload, 28, []) := (congrArg (fun t => fxl t 27) e_37).trans rfl
theorem f_Search_find_28 : fx n_Search_find 28 = some (.iadd, 29, []) := (congrArg (fun t => fxl t 28) e_37).trans rfl
theorem f_Search_find_29 : fx n_Search_find 29 = some (.istore_n 1, 30, []) := (congrArg (fun t => fxl t 29) e_37).trans rfl
theorem f_Search_find_30 : fx n_Search_find 30 = some (.iinc 2 1, 33, []) := (congrArg (fun t => fxl t 30) e_37).trans rfl
theorem f_Search_find_33 : fx n_Search_find 33 = some (.goto (-29), 36, [4]) := (congrArg (fun t => fxl t 33) e_37).trans rfl
theorem f_Search_find_36 : fx n_Search_find 36 = some (.aload_n 0, 37, []) := (congrArg (fun t => fxl t 36) e_37).trans rfl
theorem f_Search_find_37 : fx n_Search_find 37 = some (.iconst (-1), 38, []) := (congrArg (fun t => fxl t 37) e_37).trans rfl
theorem f_Search_find_38 : fx n_Search_find 38 = some (.putfield 37, 41, [3, 7]) := (congrArg (fun t => fxl t 38) e_37).trans rfl
theorem f_Search_find_41 : fx n_Search_find 41 = some (.aload_n 0, 42, []) := (congrArg (fun t => fxl t 41) e_37).trans rfl
theorem f_Search_find_42 : fx n_Search_find 42 = some (.iconst 0, 43, []) := (congrArg (fun t => fxl t 42) e_37).trans rfl
theorem f_Search_find_43 : fx n_Search_find 43 = some (.iload_n 1, 44, []) := (congrArg (fun t => fxl t 43) e_37).trans rfl
theorem f_Search_find_44 : fx n_Search_find 44 = some (.invokestatic 86, 47, [38, 3]) := (congrArg (fun t => fxl t 44) e_37).trans rfl
theorem f_Search_find_47 : fx n_Search_find 47 = some (.return_, 48, []) := (congrArg (fun t => fxl t 47) e_37).trans rfl
theorem f_Search_tryFrom_0 : fx n_Search_tryFrom 0 = some (.iload_n 1, 1, []) := (congrArg (fun t => fxl t 0) e_38).trans rfl
theorem f_Search_tryFrom_1 : fx n_Search_tryFrom 1 = some (.aload_n 0, 2, []) := (congrArg (fun t => fxl t 1) e_38).trans rfl
theorem f_Search_tryFrom_2 : fx n_Search_tryFrom 2 = some (.getfield 30, 5, [3, 5]) := (congrArg (fun t => fxl t 2) e_38).trans rfl
theorem f_Search_tryFrom_5 : fx n_Search_tryFrom 5 = some (.if_icmp .ge 8, 8, [13]) := (congrArg (fun t => fxl t 5) e_38).trans rfl
theorem f_Search_tryFrom_8 : fx n_Search_tryFrom 8 = some (.iload_n 1, 9, []) := (congrArg (fun t => fxl t 8) e_38).trans rfl
theorem f_Search_tryFrom_9 : fx n_Search_tryFrom 9 = some (.iconst 4, 10, []) := (congrArg (fun t => fxl t 9) e_38).trans rfl
theorem f_Search_tryFrom_10 : fx n_Search_tryFrom 10 = some (.if_icmp .lt 9, 13, [19]) := (congrArg (fun t => fxl t 10) e_38).trans rfl
theorem f_Search_tryFrom_13 : fx n_Search_tryFrom 13 = some (.aload_n 0, 14, []) := (congrArg (fun t => fxl t 13) e_38).trans rfl
theorem f_Search_tryFrom_14 : fx n_Search_tryFrom 14 = some (.iload_n 2, 15, []) := (congrArg (fun t => fxl t 14) e_38).trans rfl
theorem f_Search_tryFrom_15 : fx n_Search_tryFrom 15 = some (.invokevirtual 90, 18, [39, 1]) := (congrArg (fun t => fxl t 15) e_38).trans rfl
theorem f_Search_tryFrom_18 : fx n_Search_tryFrom 18 = some (.return_, 19, []) := (congrArg (fun t => fxl t 18) e_38).trans rfl
theorem f_Search_tryFrom_19 : fx n_Search_tryFrom 19 = some (.iconst 0, 20, []) := (congrArg (fun t => fxl t 19) e_38).trans rfl
theorem f_Search_tryFrom_20 : fx n_Search_tryFrom 20 = some (.istore_n 3, 21, []) := (congrArg (fun t => fxl t 20) e_38).trans rfl
theorem f_Search_tryFrom_21 : fx n_Search_tryFrom 21 = some (.iload_n 3, 22, []) := (congrArg (fun t => fxl t 21) e_38).trans rfl
theorem f_Search_tryFrom_22 : fx n_Search_tryFrom 22 = some (.aload_n 0, 23, []) := (congrArg (fun t => fxl t 22) e_38).trans rfl
theorem f_Search_tryFrom_23 : fx n_Search_tryFrom 23 = some (.getfield 26, 26, [3, 4]) := (congrArg (fun t => fxl t 23) e_38).trans rfl
theorem f_Search_tryFrom_26 : fx n_Search_tryFrom 26 = some (.if_icmp .ge 91, 29, [117]) := (congrArg (fun t => fxl t 26) e_38).trans rfl
theorem f_Search_tryFrom_29 : fx n_Search_tryFrom 29 = some (.aload_n 0, 30, []) := (congrArg (fun t => fxl t 29) e_38).trans rfl
theorem f_Search_tryFrom_30 : fx n_Search_tryFrom 30 = some (.getfield 16, 33, [3, 1]) := (congrArg (fun t => fxl t 30) e_38).trans rfl
theorem f_Search_tryFrom_33 : fx n_Search_tryFrom 33 = some (.iload_n 3, 34, []) := (congrArg (fun t => fxl t 33) e_38).trans rfl
theorem f_Search_tryFrom_34 : fx n_Search_tryFrom 34 = some (.iaload, 35, []) := (congrArg (fun t => fxl t 34) e_38).trans rfl
theorem f_Search_tryFrom_35 : fx n_Search_tryFrom 35 = some (.istore 4, 37, []) := (congrArg (fun t => fxl t 35) e_38).trans rfl
theorem f_Search_tryFrom_37 : fx n_Search_tryFrom 37 = some (.aload_n 0, 38, []) := (congrArg (fun t => fxl t 37) e_38).trans rfl
theorem f_Search_tryFrom_38 : fx n_Search_tryFrom 38 = some (.getfield 33, 41, [3, 6]) := (congrArg (fun t => fxl t 38) e_38).trans rfl
theorem f_Search_tryFrom_41 : fx n_Search_tryFrom 41 = some (.ifCond .eq 11, 44, [52]) := (congrArg (fun t => fxl t 41) e_38).trans rfl
theorem f_Search_tryFrom_44 : fx n_Search_tryFrom 44 = some (.iload 4, 46, []) := (congrArg (fun t => fxl t 44) e_38).trans rfl
theorem f_Search_tryFrom_46 : fx n_Search_tryFrom 46 = some (.ifCond .eq 6, 49, [52]) := (congrArg (fun t => fxl t 46) e_38).trans rfl
theorem f_Search_tryFrom_49 : fx n_Search_tryFrom 49 = some (.goto 62, 52, [111]) := (congrArg (fun t => fxl t 49) e_38).trans rfl
theorem f_Search_tryFrom_52 : fx n_Search_tryFrom 52 = some (.iload 4, 54, []) := (congrArg (fun t => fxl t 52) e_38).trans rfl
theorem f_Search_tryFrom_54 : fx n_Search_tryFrom 54 = some (.iconst 1, 55, []) := (congrArg (fun t => fxl t 54) e_38).trans rfl
theorem f_Search_tryFrom_55 : fx n_Search_tryFrom 55 = some (.iload_n 1, 56, []) := (congrArg (fun t => fxl t 55) e_38).trans rfl
theorem f_Search_tryFrom_56 : fx n_Search_tryFrom 56 = some (.ishl, 57, []) := (congrArg (fun t => fxl t 56) e_38).trans rfl
theorem f_Search_tryFrom_57 : fx n_Search_tryFrom 57 = some (.ior, 58, []) := (congrArg (fun t => fxl t 57) e_38).trans rfl
theorem f_Search_tryFrom_58 : fx n_Search_tryFrom 58 = some (.istore 5, 60, []) := (congrArg (fun t => fxl t 58) e_38).trans rfl
theorem f_Search_tryFrom_60 : fx n_Search_tryFrom 60 = some (.aload_n 0, 61, []) := (congrArg (fun t => fxl t 60) e_38).trans rfl
theorem f_Search_tryFrom_61 : fx n_Search_tryFrom 61 = some (.getfield 16, 64, [3, 1]) := (congrArg (fun t => fxl t 61) e_38).trans rfl
theorem f_Search_tryFrom_64 : fx n_Search_tryFrom 64 = some (.iload_n 3, 65, []) := (congrArg (fun t => fxl t 64) e_38).trans rfl
theorem f_Search_tryFrom_65 : fx n_Search_tryFrom 65 = some (.iload 5, 67, []) := (congrArg (fun t => fxl t 65) e_38).trans rfl
theorem f_Search_tryFrom_67 : fx n_Search_tryFrom 67 = some (.iastore, 68, []) := (congrArg (fun t => fxl t 67) e_38).trans rfl
theorem f_Search_tryFrom_68 : fx n_Search_tryFrom 68 = some (.aload_n 0, 69, []) := (congrArg (fun t => fxl t 68) e_38).trans rfl
theorem f_Search_tryFrom_69 : fx n_Search_tryFrom 69 = some (.getfield 20, 72, [3, 2]) := (congrArg (fun t => fxl t 69) e_38).trans rfl
theorem f_Search_tryFrom_72 : fx n_Search_tryFrom 72 = some (.iload_n 1, 73, []) := (congrArg (fun t => fxl t 72) e_38).trans rfl
theorem f_Search_tryFrom_73 : fx n_Search_tryFrom 73 = some (.iload_n 3, 74, []) := (congrArg (fun t => fxl t 73) e_38).trans rfl
theorem f_Search_tryFrom_74 : fx n_Search_tryFrom 74 = some (.iastore, 75, []) := (congrArg (fun t => fxl t 74) e_38).trans rfl
theorem f_Search_tryFrom_75 : fx n_Search_tryFrom 75 = some (.aload_n 0, 76, []) := (congrArg (fun t => fxl t 75) e_38).trans rfl
theorem f_Search_tryFrom_76 : fx n_Search_tryFrom 76 = some (.iload_n 1, 77, []) := (congrArg (fun t => fxl t 76) e_38).trans rfl
theorem f_Search_tryFrom_77 : fx n_Search_tryFrom 77 = some (.iconst 1, 78, []) := (congrArg (fun t => fxl t 77) e_38).trans rfl
theorem f_Search_tryFrom_78 : fx n_Search_tryFrom 78 = some (.iadd, 79, []) := (congrArg (fun t => fxl t 78) e_38).trans rfl
theorem f_Search_tryFrom_79 : fx n_Search_tryFrom 79 = some (.iload_n 2, 80, []) := (congrArg (fun t => fxl t 79) e_38).trans rfl
theorem f_Search_tryFrom_80 : fx n_Search_tryFrom 80 = some (.aload_n 0, 81, []) := (congrArg (fun t => fxl t 80) e_38).trans rfl
theorem f_Search_tryFrom_81 : fx n_Search_tryFrom 81 = some (.getfield 11, 84, [3, 0]) := (congrArg (fun t => fxl t 81) e_38).trans rfl
theorem f_Search_tryFrom_84 : fx n_Search_tryFrom 84 = some (.iload_n 3, 85, []) := (congrArg (fun t => fxl t 84) e_38).trans rfl
theorem f_Search_tryFrom_85 : fx n_Search_tryFrom 85 = some (.aaload, 86, []) := (congrArg (fun t => fxl t 85) e_38).trans rfl
theorem f_Search_tryFrom_86 : fx n_Search_tryFrom 86 = some (.iload 4, 88, []) := (congrArg (fun t => fxl t 86) e_38).trans rfl
theorem f_Search_tryFrom_88 : fx n_Search_tryFrom 88 = some (.iaload, 89, []) := (congrArg (fun t => fxl t 88) e_38).trans rfl
theorem f_Search_tryFrom_89 : fx n_Search_tryFrom 89 = some (.isub, 90, []) := (congrArg (fun t => fxl t 89) e_38).trans rfl
theorem f_Search_tryFrom_90 : fx n_Search_tryFrom 90 = some (.aload_n 0, 91, []) := (congrArg (fun t => fxl t 90) e_38).trans rfl
theorem f_Search_tryFrom_91 : fx n_Search_tryFrom 91 = some (.getfield 11, 94, [3, 0]) := (congrArg (fun t => fxl t 91) e_38).trans rfl
theorem f_Search_tryFrom_94 : fx n_Search_tryFrom 94 = some (.iload_n 3, 95, []) := (congrArg (fun t => fxl t 94) e_38).trans rfl
theorem f_Search_tryFrom_95 : fx n_Search_tryFrom 95 = some (.aaload, 96, []) := (congrArg (fun t => fxl t 95) e_38).trans rfl
theorem f_Search_tryFrom_96 : fx n_Search_tryFrom 96 = some (.iload 5, 98, []) := (congrArg (fun t => fxl t 96) e_38).trans rfl
theorem f_Search_tryFrom_98 : fx n_Search_tryFrom 98 = some (.iaload, 99, []) := (congrArg (fun t => fxl t 98) e_38).trans rfl
theorem f_Search_tryFrom_99 : fx n_Search_tryFrom 99 = some (.iadd, 100, []) := (congrArg (fun t => fxl t 99) e_38).trans rfl
theorem f_Search_tryFrom_100 : fx n_Search_tryFrom 100 = some (.invokestatic 86, 103, [38, 3]) := (congrArg (fun t => fxl t 100) e_38).trans rfl
theorem f_Search_tryFrom_103 : fx n_Search_tryFrom 103 = some (.aload_n 0, 104, []) := (congrArg (fun t => fxl t 103) e_38).trans rfl
theorem f_Search_tryFrom_104 : fx n_Search_tryFrom 104 = some (.getfield 16, 107, [3, 1]) := (congrArg (fun t => fxl t 104) e_38).trans rfl
theorem f_Search_tryFrom_107 : fx n_Search_tryFrom 107 = some (.iload_n 3, 108, []) := (congrArg (fun t => fxl t 107) e_38).trans rfl
theorem f_Search_tryFrom_108 : fx n_Search_tryFrom 108 = some (.iload 4, 110, []) := (congrArg (fun t => fxl t 108) e_38).trans rfl
theorem f_Search_tryFrom_110 : fx n_Search_tryFrom 110 = some (.iastore, 111, []) := (congrArg (fun t => fxl t 110) e_38).trans rfl
theorem f_Search_tryFrom_111 : fx n_Search_tryFrom 111 = some (.iinc 3 1, 114, []) := (congrArg (fun t => fxl t 111) e_38).trans rfl
theorem f_Search_tryFrom_114 : fx n_Search_tryFrom 114 = some (.goto (-93), 117, [21]) := (congrArg (fun t => fxl t 114) e_38).trans rfl
theorem f_Search_tryFrom_117 : fx n_Search_tryFrom 117 = some (.return_, 118, []) := (congrArg (fun t => fxl t 117) e_38).trans rfl
theorem f_Search_keepIfBetter_0 : fx n_Search_keepIfBetter 0 = some (.aload_n 0, 1, []) := (congrArg (fun t => fxl t 0) e_39).trans rfl
theorem f_Search_keepIfBetter_1 : fx n_Search_keepIfBetter 1 = some (.getfield 37, 4, [3, 7]) := (congrArg (fun t => fxl t 1) e_39).trans rfl
theorem f_Search_keepIfBetter_4 : fx n_Search_keepIfBetter 4 = some (.iconst (-1), 5, []) := (congrArg (fun t => fxl t 4) e_39).trans rfl
theorem f_Search_keepIfBetter_5 : fx n_Search_keepIfBetter 5 = some (.if_icmp .eq 11, 8, [16]) := (congrArg (fun t => fxl t 5) e_39).trans rfl
theorem f_Search_keepIfBetter_8 : fx n_Search_keepIfBetter 8 = some (.iload_n 1, 9, []) := (congrArg (fun t => fxl t 8) e_39).trans rfl
theorem f_Search_keepIfBetter_9 : fx n_Search_keepIfBetter 9 = some (.aload_n 0, 10, []) := (congrArg (fun t => fxl t 9) e_39).trans rfl
theorem f_Search_keepIfBetter_10 : fx n_Search_keepIfBetter 10 = some (.getfield 37, 13, [3, 7]) := (congrArg (fun t => fxl t 10) e_39).trans rfl
theorem f_Search_keepIfBetter_13 : fx n_Search_keepIfBetter 13 = some (.if_icmp .ge 22, 16, [35]) := (congrArg (fun t => fxl t 13) e_39).trans rfl
theorem f_Search_keepIfBetter_16 : fx n_Search_keepIfBetter 16 = some (.aload_n 0, 17, []) := (congrArg (fun t => fxl t 16) e_39).trans rfl
theorem f_Search_keepIfBetter_17 : fx n_Search_keepIfBetter 17 = some (.iload_n 1, 18, []) := (congrArg (fun t => fxl t 17) e_39).trans rfl
theorem f_Search_keepIfBetter_18 : fx n_Search_keepIfBetter 18 = some (.putfield 37, 21, [3, 7]) := (congrArg (fun t => fxl t 18) e_39).trans rfl
theorem f_Search_keepIfBetter_21 : fx n_Search_keepIfBetter 21 = some (.aload_n 0, 22, []) := (congrArg (fun t => fxl t 21) e_39).trans rfl
theorem f_Search_keepIfBetter_22 : fx n_Search_keepIfBetter 22 = some (.getfield 20, 25, [3, 2]) := (congrArg (fun t => fxl t 22) e_39).trans rfl
theorem f_Search_keepIfBetter_25 : fx n_Search_keepIfBetter 25 = some (.iconst 0, 26, []) := (congrArg (fun t => fxl t 25) e_39).trans rfl
theorem f_Search_keepIfBetter_26 : fx n_Search_keepIfBetter 26 = some (.aload_n 0, 27, []) := (congrArg (fun t => fxl t 26) e_39).trans rfl
theorem f_Search_keepIfBetter_27 : fx n_Search_keepIfBetter 27 = some (.getfield 23, 30, [3, 3]) := (congrArg (fun t => fxl t 27) e_39).trans rfl
theorem f_Search_keepIfBetter_30 : fx n_Search_keepIfBetter 30 = some (.iconst 0, 31, []) := (congrArg (fun t => fxl t 30) e_39).trans rfl
theorem f_Search_keepIfBetter_31 : fx n_Search_keepIfBetter 31 = some (.iconst 4, 32, []) := (congrArg (fun t => fxl t 31) e_39).trans rfl
theorem f_Search_keepIfBetter_32 : fx n_Search_keepIfBetter 32 = some (.invokestatic 94, 35, [902, 5]) := (congrArg (fun t => fxl t 32) e_39).trans rfl
theorem f_Search_keepIfBetter_35 : fx n_Search_keepIfBetter 35 = some (.return_, 36, []) := (congrArg (fun t => fxl t 35) e_39).trans rfl
theorem f_Search_told_0 : fx n_Search_told 0 = some (.aload_n 0, 1, []) := (congrArg (fun t => fxl t 0) e_40).trans rfl
theorem f_Search_told_1 : fx n_Search_told 1 = some (.getfield 37, 4, [3, 7]) := (congrArg (fun t => fxl t 1) e_40).trans rfl
theorem f_Search_told_4 : fx n_Search_told 4 = some (.iconst (-1), 5, []) := (congrArg (fun t => fxl t 4) e_40).trans rfl
theorem f_Search_told_5 : fx n_Search_told 5 = some (.if_icmp .ne 5, 8, [10]) := (congrArg (fun t => fxl t 5) e_40).trans rfl
theorem f_Search_told_8 : fx n_Search_told 8 = some (.iconst (-1), 9, []) := (congrArg (fun t => fxl t 8) e_40).trans rfl
theorem f_Search_told_9 : fx n_Search_told 9 = some (.ireturn, 10, []) := (congrArg (fun t => fxl t 9) e_40).trans rfl
theorem f_Search_told_10 : fx n_Search_told 10 = some (.iload_n 1, 11, []) := (congrArg (fun t => fxl t 10) e_40).trans rfl
theorem f_Search_told_11 : fx n_Search_told 11 = some (.ifCond .ne 11, 14, [22]) := (congrArg (fun t => fxl t 11) e_40).trans rfl
theorem f_Search_told_14 : fx n_Search_told 14 = some (.aload_n 0, 15, []) := (congrArg (fun t => fxl t 14) e_40).trans rfl
theorem f_Search_told_15 : fx n_Search_told 15 = some (.getfield 37, 18, [3, 7]) := (congrArg (fun t => fxl t 15) e_40).trans rfl
theorem f_Search_told_18 : fx n_Search_told 18 = some (.bipush 100, 20, []) := (congrArg (fun t => fxl t 18) e_40).trans rfl
theorem f_Search_told_20 : fx n_Search_told 20 = some (.idiv, 21, []) := (congrArg (fun t => fxl t 20) e_40).trans rfl
theorem f_Search_told_21 : fx n_Search_told 21 = some (.ireturn, 22, []) := (congrArg (fun t => fxl t 21) e_40).trans rfl
theorem f_Search_told_22 : fx n_Search_told 22 = some (.iload_n 1, 23, []) := (congrArg (fun t => fxl t 22) e_40).trans rfl
theorem f_Search_told_23 : fx n_Search_told 23 = some (.iconst 1, 24, []) := (congrArg (fun t => fxl t 23) e_40).trans rfl
theorem f_Search_told_24 : fx n_Search_told 24 = some (.if_icmp .ne 11, 27, [35]) := (congrArg (fun t => fxl t 24) e_40).trans rfl
theorem f_Search_told_27 : fx n_Search_told 27 = some (.aload_n 0, 28, []) := (congrArg (fun t => fxl t 27) e_40).trans rfl
theorem f_Search_told_28 : fx n_Search_told 28 = some (.getfield 37, 31, [3, 7]) := (congrArg (fun t => fxl t 28) e_40).trans rfl
theorem f_Search_told_31 : fx n_Search_told 31 = some (.bipush 100, 33, []) := (congrArg (fun t => fxl t 31) e_40).trans rfl
theorem f_Search_told_33 : fx n_Search_told 33 = some (.irem, 34, []) := (congrArg (fun t => fxl t 33) e_40).trans rfl
theorem f_Search_told_34 : fx n_Search_told 34 = some (.ireturn, 35, []) := (congrArg (fun t => fxl t 34) e_40).trans rfl
theorem f_Search_told_35 : fx n_Search_told 35 = some (.iload_n 1, 36, []) := (congrArg (fun t => fxl t 35) e_40).trans rfl
theorem f_Search_told_36 : fx n_Search_told 36 = some (.bipush 10, 38, []) := (congrArg (fun t => fxl t 36) e_40).trans rfl
theorem f_Search_told_38 : fx n_Search_told 38 = some (.isub, 39, []) := (congrArg (fun t => fxl t 38) e_40).trans rfl
theorem f_Search_told_39 : fx n_Search_told 39 = some (.istore_n 2, 40, []) := (congrArg (fun t => fxl t 39) e_40).trans rfl
theorem f_Search_told_40 : fx n_Search_told 40 = some (.iload_n 2, 41, []) := (congrArg (fun t => fxl t 40) e_40).trans rfl
theorem f_Search_told_41 : fx n_Search_told 41 = some (.ifCond .lt 25, 44, [66]) := (congrArg (fun t => fxl t 41) e_40).trans rfl
theorem f_Search_told_44 : fx n_Search_told 44 = some (.iload_n 2, 45, []) := (congrArg (fun t => fxl t 44) e_40).trans rfl
theorem f_Search_told_45 : fx n_Search_told 45 = some (.aload_n 0, 46, []) := (congrArg (fun t => fxl t 45) e_40).trans rfl
theorem f_Search_told_46 : fx n_Search_told 46 = some (.getfield 30, 49, [3, 5]) := (congrArg (fun t => fxl t 46) e_40).trans rfl
theorem f_Search_told_49 : fx n_Search_told 49 = some (.if_icmp .ge 17, 52, [66]) := (congrArg (fun t => fxl t 49) e_40).trans rfl
theorem f_Search_told_52 : fx n_Search_told 52 = some (.iload_n 2, 53, []) := (congrArg (fun t => fxl t 52) e_40).trans rfl
theorem f_Search_told_53 : fx n_Search_told 53 = some (.iconst 4, 54, []) := (congrArg (fun t => fxl t 53) e_40).trans rfl
theorem f_Search_told_54 : fx n_Search_told 54 = some (.if_icmp .ge 12, 57, [66]) := (congrArg (fun t => fxl t 54) e_40).trans rfl
theorem f_Search_told_57 : fx n_Search_told 57 = some (.aload_n 0, 58, []) := (congrArg (fun t => fxl t 57) e_40).trans rfl
theorem f_Search_told_58 : fx n_Search_told 58 = some (.getfield 23, 61, [3, 3]) := (congrArg (fun t => fxl t 58) e_40).trans rfl
theorem f_Search_told_61 : fx n_Search_told 61 = some (.iload_n 2, 62, []) := (congrArg (fun t => fxl t 61) e_40).trans rfl
theorem f_Search_told_62 : fx n_Search_told 62 = some (.iaload, 63, []) := (congrArg (fun t => fxl t 62) e_40).trans rfl
theorem f_Search_told_63 : fx n_Search_told 63 = some (.goto 4, 66, [67]) := (congrArg (fun t => fxl t 63) e_40).trans rfl
theorem f_Search_told_66 : fx n_Search_told 66 = some (.iconst (-1), 67, []) := (congrArg (fun t => fxl t 66) e_40).trans rfl
theorem f_Search_told_67 : fx n_Search_told 67 = some (.ireturn, 68, []) := (congrArg (fun t => fxl t 67) e_40).trans rfl
theorem f_Seen_add_0 : fx n_Seen_add 0 = some (.aload_n 0, 1, []) := (congrArg (fun t => fxl t 0) e_41).trans rfl
theorem f_Seen_add_1 : fx n_Seen_add 1 = some (.getfield 9, 4, [4, 0]) := (congrArg (fun t => fxl t 1) e_41).trans rfl
theorem f_Seen_add_4 : fx n_Seen_add 4 = some (.bipush 6, 6, []) := (congrArg (fun t => fxl t 4) e_41).trans rfl
theorem f_Seen_add_6 : fx n_Seen_add 6 = some (.if_icmp .ge 43, 9, [49]) := (congrArg (fun t => fxl t 6) e_41).trans rfl
theorem f_Seen_add_9 : fx n_Seen_add 9 = some (.aload_n 0, 10, []) := (congrArg (fun t => fxl t 9) e_41).trans rfl
theorem f_Seen_add_10 : fx n_Seen_add 10 = some (.getfield 15, 13, [4, 1]) := (congrArg (fun t => fxl t 10) e_41).trans rfl
theorem f_Seen_add_13 : fx n_Seen_add 13 = some (.aload_n 0, 14, []) := (congrArg (fun t => fxl t 13) e_41).trans rfl
theorem f_Seen_add_14 : fx n_Seen_add 14 = some (.getfield 9, 17, [4, 0]) := (congrArg (fun t => fxl t 14) e_41).trans rfl
theorem f_Seen_add_17 : fx n_Seen_add 17 = some (.iload_n 1, 18, []) := (congrArg (fun t => fxl t 17) e_41).trans rfl
theorem f_Seen_add_18 : fx n_Seen_add 18 = some (.iastore, 19, []) := (congrArg (fun t => fxl t 18) e_41).trans rfl
theorem f_Seen_add_19 : fx n_Seen_add 19 = some (.aload_n 0, 20, []) := (congrArg (fun t => fxl t 19) e_41).trans rfl
theorem f_Seen_add_20 : fx n_Seen_add 20 = some (.getfield 19, 23, [4, 2]) := (congrArg (fun t => fxl t 20) e_41).trans rfl
theorem f_Seen_add_23 : fx n_Seen_add 23 = some (.aload_n 0, 24, []) := (congrArg (fun t => fxl t 23) e_41).trans rfl
theorem f_Seen_add_24 : fx n_Seen_add 24 = some (.getfield 9, 27, [4, 0]) := (congrArg (fun t => fxl t 24) e_41).trans rfl
theorem f_Seen_add_27 : fx n_Seen_add 27 = some (.iload_n 2, 28, []) := (congrArg (fun t => fxl t 27) e_41).trans rfl
theorem f_Seen_add_28 : fx n_Seen_add 28 = some (.iastore, 29, []) := (congrArg (fun t => fxl t 28) e_41).trans rfl
theorem f_Seen_add_29 : fx n_Seen_add 29 = some (.aload_n 0, 30, []) := (congrArg (fun t => fxl t 29) e_41).trans rfl
theorem f_Seen_add_30 : fx n_Seen_add 30 = some (.getfield 22, 33, [4, 3]) := (congrArg (fun t => fxl t 30) e_41).trans rfl
theorem f_Seen_add_33 : fx n_Seen_add 33 = some (.aload_n 0, 34, []) := (congrArg (fun t => fxl t 33) e_41).trans rfl
theorem f_Seen_add_34 : fx n_Seen_add 34 = some (.getfield 9, 37, [4, 0]) := (congrArg (fun t => fxl t 34) e_41).trans rfl
theorem f_Seen_add_37 : fx n_Seen_add 37 = some (.iload_n 3, 38, []) := (congrArg (fun t => fxl t 37) e_41).trans rfl
theorem f_Seen_add_38 : fx n_Seen_add 38 = some (.bastore, 39, []) := (congrArg (fun t => fxl t 38) e_41).trans rfl
theorem f_Seen_add_39 : fx n_Seen_add 39 = some (.aload_n 0, 40, []) := (congrArg (fun t => fxl t 39) e_41).trans rfl
theorem f_Seen_add_40 : fx n_Seen_add 40 = some (.dup, 41, []) := (congrArg (fun t => fxl t 40) e_41).trans rfl
theorem f_Seen_add_41 : fx n_Seen_add 41 = some (.getfield 9, 44, [4, 0]) := (congrArg (fun t => fxl t 41) e_41).trans rfl
theorem f_Seen_add_44 : fx n_Seen_add 44 = some (.iconst 1, 45, []) := (congrArg (fun t => fxl t 44) e_41).trans rfl
theorem f_Seen_add_45 : fx n_Seen_add 45 = some (.iadd, 46, []) := (congrArg (fun t => fxl t 45) e_41).trans rfl
theorem f_Seen_add_46 : fx n_Seen_add 46 = some (.putfield 9, 49, [4, 0]) := (congrArg (fun t => fxl t 46) e_41).trans rfl
theorem f_Seen_add_49 : fx n_Seen_add 49 = some (.return_, 50, []) := (congrArg (fun t => fxl t 49) e_41).trans rfl
theorem f_Seen_copyFrom_0 : fx n_Seen_copyFrom 0 = some (.aload_n 0, 1, []) := (congrArg (fun t => fxl t 0) e_42).trans rfl
theorem f_Seen_copyFrom_1 : fx n_Seen_copyFrom 1 = some (.aload_n 1, 2, []) := (congrArg (fun t => fxl t 1) e_42).trans rfl
theorem f_Seen_copyFrom_2 : fx n_Seen_copyFrom 2 = some (.getfield 9, 5, [4, 0]) := (congrArg (fun t => fxl t 2) e_42).trans rfl
theorem f_Seen_copyFrom_5 : fx n_Seen_copyFrom 5 = some (.putfield 9, 8, [4, 0]) := (congrArg (fun t => fxl t 5) e_42).trans rfl
theorem f_Seen_copyFrom_8 : fx n_Seen_copyFrom 8 = some (.iconst 0, 9, []) := (congrArg (fun t => fxl t 8) e_42).trans rfl
theorem f_Seen_copyFrom_9 : fx n_Seen_copyFrom 9 = some (.istore_n 2, 10, []) := (congrArg (fun t => fxl t 9) e_42).trans rfl
theorem f_Seen_copyFrom_10 : fx n_Seen_copyFrom 10 = some (.iload_n 2, 11, []) := (congrArg (fun t => fxl t 10) e_42).trans rfl
theorem f_Seen_copyFrom_11 : fx n_Seen_copyFrom 11 = some (.bipush 6, 13, []) := (congrArg (fun t => fxl t 11) e_42).trans rfl
theorem f_Seen_copyFrom_13 : fx n_Seen_copyFrom 13 = some (.if_icmp .ge 45, 16, [58]) := (congrArg (fun t => fxl t 13) e_42).trans rfl
theorem f_Seen_copyFrom_16 : fx n_Seen_copyFrom 16 = some (.aload_n 0, 17, []) := (congrArg (fun t => fxl t 16) e_42).trans rfl
theorem f_Seen_copyFrom_17 : fx n_Seen_copyFrom 17 = some (.getfield 15, 20, [4, 1]) := (congrArg (fun t => fxl t 17) e_42).trans rfl
theorem f_Seen_copyFrom_20 : fx n_Seen_copyFrom 20 = some (.iload_n 2, 21, []) := (congrArg (fun t => fxl t 20) e_42).trans rfl
theorem f_Seen_copyFrom_21 : fx n_Seen_copyFrom 21 = some (.aload_n 1, 22, []) := (congrArg (fun t => fxl t 21) e_42).trans rfl
theorem f_Seen_copyFrom_22 : fx n_Seen_copyFrom 22 = some (.getfield 15, 25, [4, 1]) := (congrArg (fun t => fxl t 22) e_42).trans rfl
theorem f_Seen_copyFrom_25 : fx n_Seen_copyFrom 25 = some (.iload_n 2, 26, []) := (congrArg (fun t => fxl t 25) e_42).trans rfl
theorem f_Seen_copyFrom_26 : fx n_Seen_copyFrom 26 = some (.iaload, 27, []) := (congrArg (fun t => fxl t 26) e_42).trans rfl
theorem f_Seen_copyFrom_27 : fx n_Seen_copyFrom 27 = some (.iastore, 28, []) := (congrArg (fun t => fxl t 27) e_42).trans rfl
theorem f_Seen_copyFrom_28 : fx n_Seen_copyFrom 28 = some (.aload_n 0, 29, []) := (congrArg (fun t => fxl t 28) e_42).trans rfl
theorem f_Seen_copyFrom_29 : fx n_Seen_copyFrom 29 = some (.getfield 19, 32, [4, 2]) := (congrArg (fun t => fxl t 29) e_42).trans rfl
theorem f_Seen_copyFrom_32 : fx n_Seen_copyFrom 32 = some (.iload_n 2, 33, []) := (congrArg (fun t => fxl t 32) e_42).trans rfl
theorem f_Seen_copyFrom_33 : fx n_Seen_copyFrom 33 = some (.aload_n 1, 34, []) := (congrArg (fun t => fxl t 33) e_42).trans rfl
theorem f_Seen_copyFrom_34 : fx n_Seen_copyFrom 34 = some (.getfield 19, 37, [4, 2]) := (congrArg (fun t => fxl t 34) e_42).trans rfl
theorem f_Seen_copyFrom_37 : fx n_Seen_copyFrom 37 = some (.iload_n 2, 38, []) := (congrArg (fun t => fxl t 37) e_42).trans rfl
theorem f_Seen_copyFrom_38 : fx n_Seen_copyFrom 38 = some (.iaload, 39, []) := (congrArg (fun t => fxl t 38) e_42).trans rfl
theorem f_Seen_copyFrom_39 : fx n_Seen_copyFrom 39 = some (.iastore, 40, []) := (congrArg (fun t => fxl t 39) e_42).trans rfl
theorem f_Seen_copyFrom_40 : fx n_Seen_copyFrom 40 = some (.aload_n 0, 41, []) := (congrArg (fun t => fxl t 40) e_42).trans rfl
theorem f_Seen_copyFrom_41 : fx n_Seen_copyFrom 41 = some (.getfield 22, 44, [4, 3]) := (congrArg (fun t => fxl t 41) e_42).trans rfl
theorem f_Seen_copyFrom_44 : fx n_Seen_copyFrom 44 = some (.iload_n 2, 45, []) := (congrArg (fun t => fxl t 44) e_42).trans rfl
theorem f_Seen_copyFrom_45 : fx n_Seen_copyFrom 45 = some (.aload_n 1, 46, []) := (congrArg (fun t => fxl t 45) e_42).trans rfl
theorem f_Seen_copyFrom_46 : fx n_Seen_copyFrom 46 = some (.getfield 22, 49, [4, 3]) := (congrArg (fun t => fxl t 46) e_42).trans rfl
theorem f_Seen_copyFrom_49 : fx n_Seen_copyFrom 49 = some (.iload_n 2, 50, []) := (congrArg (fun t => fxl t 49) e_42).trans rfl
theorem f_Seen_copyFrom_50 : fx n_Seen_copyFrom 50 = some (.baload, 51, []) := (congrArg (fun t => fxl t 50) e_42).trans rfl
theorem f_Seen_copyFrom_51 : fx n_Seen_copyFrom 51 = some (.bastore, 52, []) := (congrArg (fun t => fxl t 51) e_42).trans rfl
theorem f_Seen_copyFrom_52 : fx n_Seen_copyFrom 52 = some (.iinc 2 1, 55, []) := (congrArg (fun t => fxl t 52) e_42).trans rfl
theorem f_Seen_copyFrom_55 : fx n_Seen_copyFrom 55 = some (.goto (-45), 58, [10]) := (congrArg (fun t => fxl t 55) e_42).trans rfl
theorem f_Seen_copyFrom_58 : fx n_Seen_copyFrom 58 = some (.return_, 59, []) := (congrArg (fun t => fxl t 58) e_42).trans rfl
theorem f_Seen_wildBits_0 : fx n_Seen_wildBits 0 = some (.iconst 0, 1, []) := (congrArg (fun t => fxl t 0) e_43).trans rfl
theorem f_Seen_wildBits_1 : fx n_Seen_wildBits 1 = some (.istore_n 3, 2, []) := (congrArg (fun t => fxl t 1) e_43).trans rfl
theorem f_Seen_wildBits_2 : fx n_Seen_wildBits 2 = some (.iconst 0, 3, []) := (congrArg (fun t => fxl t 2) e_43).trans rfl
theorem f_Seen_wildBits_3 : fx n_Seen_wildBits 3 = some (.istore 4, 5, []) := (congrArg (fun t => fxl t 3) e_43).trans rfl
theorem f_Seen_wildBits_5 : fx n_Seen_wildBits 5 = some (.iload 4, 7, []) := (congrArg (fun t => fxl t 5) e_43).trans rfl
theorem f_Seen_wildBits_7 : fx n_Seen_wildBits 7 = some (.bipush 9, 9, []) := (congrArg (fun t => fxl t 7) e_43).trans rfl
theorem f_Seen_wildBits_9 : fx n_Seen_wildBits 9 = some (.if_icmp .gt 27, 12, [36]) := (congrArg (fun t => fxl t 9) e_43).trans rfl
theorem f_Seen_wildBits_12 : fx n_Seen_wildBits 12 = some (.aload_n 0, 13, []) := (congrArg (fun t => fxl t 12) e_43).trans rfl
theorem f_Seen_wildBits_13 : fx n_Seen_wildBits 13 = some (.aload_n 1, 14, []) := (congrArg (fun t => fxl t 13) e_43).trans rfl
theorem f_Seen_wildBits_14 : fx n_Seen_wildBits 14 = some (.iload_n 2, 15, []) := (congrArg (fun t => fxl t 14) e_43).trans rfl
theorem f_Seen_wildBits_15 : fx n_Seen_wildBits 15 = some (.iload 4, 17, []) := (congrArg (fun t => fxl t 15) e_43).trans rfl
theorem f_Seen_wildBits_17 : fx n_Seen_wildBits 17 = some (.invokevirtual 26, 20, [44, 3]) := (congrArg (fun t => fxl t 17) e_43).trans rfl
theorem f_Seen_wildBits_20 : fx n_Seen_wildBits 20 = some (.ifCond .eq 10, 23, [30]) := (congrArg (fun t => fxl t 20) e_43).trans rfl
theorem f_Seen_wildBits_23 : fx n_Seen_wildBits 23 = some (.iload_n 3, 24, []) := (congrArg (fun t => fxl t 23) e_43).trans rfl
theorem f_Seen_wildBits_24 : fx n_Seen_wildBits 24 = some (.iconst 1, 25, []) := (congrArg (fun t => fxl t 24) e_43).trans rfl
theorem f_Seen_wildBits_25 : fx n_Seen_wildBits 25 = some (.iload 4, 27, []) := (congrArg (fun t => fxl t 25) e_43).trans rfl
theorem f_Seen_wildBits_27 : fx n_Seen_wildBits 27 = some (.ishl, 28, []) := (congrArg (fun t => fxl t 27) e_43).trans rfl
theorem f_Seen_wildBits_28 : fx n_Seen_wildBits 28 = some (.ior, 29, []) := (congrArg (fun t => fxl t 28) e_43).trans rfl
theorem f_Seen_wildBits_29 : fx n_Seen_wildBits 29 = some (.istore_n 3, 30, []) := (congrArg (fun t => fxl t 29) e_43).trans rfl
theorem f_Seen_wildBits_30 : fx n_Seen_wildBits 30 = some (.iinc 4 1, 33, []) := (congrArg (fun t => fxl t 30) e_43).trans rfl
theorem f_Seen_wildBits_33 : fx n_Seen_wildBits 33 = some (.goto (-28), 36, [5]) := (congrArg (fun t => fxl t 33) e_43).trans rfl
theorem f_Seen_wildBits_36 : fx n_Seen_wildBits 36 = some (.iload_n 3, 37, []) := (congrArg (fun t => fxl t 36) e_43).trans rfl
theorem f_Seen_wildBits_37 : fx n_Seen_wildBits 37 = some (.ireturn, 38, []) := (congrArg (fun t => fxl t 37) e_43).trans rfl
theorem f_Seen_agrees_0 : fx n_Seen_agrees 0 = some (.iconst 0, 1, []) := (congrArg (fun t => fxl t 0) e_44).trans rfl
theorem f_Seen_agrees_1 : fx n_Seen_agrees 1 = some (.istore 4, 3, []) := (congrArg (fun t => fxl t 1) e_44).trans rfl
theorem f_Seen_agrees_3 : fx n_Seen_agrees 3 = some (.iload 4, 5, []) := (congrArg (fun t => fxl t 3) e_44).trans rfl
theorem f_Seen_agrees_5 : fx n_Seen_agrees 5 = some (.aload_n 0, 6, []) := (congrArg (fun t => fxl t 5) e_44).trans rfl
theorem f_Seen_agrees_6 : fx n_Seen_agrees 6 = some (.getfield 9, 9, [4, 0]) := (congrArg (fun t => fxl t 6) e_44).trans rfl
theorem f_Seen_agrees_9 : fx n_Seen_agrees 9 = some (.if_icmp .ge 56, 12, [65]) := (congrArg (fun t => fxl t 9) e_44).trans rfl
theorem f_Seen_agrees_12 : fx n_Seen_agrees 12 = some (.aload_n 0, 13, []) := (congrArg (fun t => fxl t 12) e_44).trans rfl
theorem f_Seen_agrees_13 : fx n_Seen_agrees 13 = some (.getfield 15, 16, [4, 1]) := (congrArg (fun t => fxl t 13) e_44).trans rfl
theorem f_Seen_agrees_16 : fx n_Seen_agrees 16 = some (.iload 4, 18, []) := (congrArg (fun t => fxl t 16) e_44).trans rfl
theorem f_Seen_agrees_18 : fx n_Seen_agrees 18 = some (.iaload, 19, []) := (congrArg (fun t => fxl t 18) e_44).trans rfl
theorem f_Seen_agrees_19 : fx n_Seen_agrees 19 = some (.iload_n 2, 20, []) := (congrArg (fun t => fxl t 19) e_44).trans rfl
theorem f_Seen_agrees_20 : fx n_Seen_agrees 20 = some (.if_icmp .ne 39, 23, [59]) := (congrArg (fun t => fxl t 20) e_44).trans rfl
theorem f_Seen_agrees_23 : fx n_Seen_agrees 23 = some (.aload_n 1, 24, []) := (congrArg (fun t => fxl t 23) e_44).trans rfl
theorem f_Seen_agrees_24 : fx n_Seen_agrees 24 = some (.getfield 30, 27, [2, 4]) := (congrArg (fun t => fxl t 24) e_44).trans rfl
theorem f_Seen_agrees_27 : fx n_Seen_agrees 27 = some (.iload_n 2, 28, []) := (congrArg (fun t => fxl t 27) e_44).trans rfl
theorem f_Seen_agrees_28 : fx n_Seen_agrees 28 = some (.iaload, 29, []) := (congrArg (fun t => fxl t 28) e_44).trans rfl
theorem f_Seen_agrees_29 : fx n_Seen_agrees 29 = some (.aload_n 1, 30, []) := (congrArg (fun t => fxl t 29) e_44).trans rfl
theorem f_Seen_agrees_30 : fx n_Seen_agrees 30 = some (.getfield 35, 33, [2, 8]) := (congrArg (fun t => fxl t 30) e_44).trans rfl
theorem f_Seen_agrees_33 : fx n_Seen_agrees 33 = some (.iload_n 2, 34, []) := (congrArg (fun t => fxl t 33) e_44).trans rfl
theorem f_Seen_agrees_34 : fx n_Seen_agrees 34 = some (.iaload, 35, []) := (congrArg (fun t => fxl t 34) e_44).trans rfl
theorem f_Seen_agrees_35 : fx n_Seen_agrees 35 = some (.aload_n 0, 36, []) := (congrArg (fun t => fxl t 35) e_44).trans rfl
theorem f_Seen_agrees_36 : fx n_Seen_agrees 36 = some (.getfield 19, 39, [4, 2]) := (congrArg (fun t => fxl t 36) e_44).trans rfl
theorem f_Seen_agrees_39 : fx n_Seen_agrees 39 = some (.iload 4, 41, []) := (congrArg (fun t => fxl t 39) e_44).trans rfl
theorem f_Seen_agrees_41 : fx n_Seen_agrees 41 = some (.iaload, 42, []) := (congrArg (fun t => fxl t 41) e_44).trans rfl
theorem f_Seen_agrees_42 : fx n_Seen_agrees 42 = some (.iadd, 43, []) := (congrArg (fun t => fxl t 42) e_44).trans rfl
theorem f_Seen_agrees_43 : fx n_Seen_agrees 43 = some (.iload_n 3, 44, []) := (congrArg (fun t => fxl t 43) e_44).trans rfl
theorem f_Seen_agrees_44 : fx n_Seen_agrees 44 = some (.invokestatic 38, 47, [81, 3]) := (congrArg (fun t => fxl t 44) e_44).trans rfl
theorem f_Seen_agrees_47 : fx n_Seen_agrees 47 = some (.aload_n 0, 48, []) := (congrArg (fun t => fxl t 47) e_44).trans rfl
theorem f_Seen_agrees_48 : fx n_Seen_agrees 48 = some (.getfield 22, 51, [4, 3]) := (congrArg (fun t => fxl t 48) e_44).trans rfl
theorem f_Seen_agrees_51 : fx n_Seen_agrees 51 = some (.iload 4, 53, []) := (congrArg (fun t => fxl t 51) e_44).trans rfl
theorem f_Seen_agrees_53 : fx n_Seen_agrees 53 = some (.baload, 54, []) := (congrArg (fun t => fxl t 53) e_44).trans rfl
theorem f_Seen_agrees_54 : fx n_Seen_agrees 54 = some (.if_icmp .eq 5, 57, [59]) := (congrArg (fun t => fxl t 54) e_44).trans rfl
theorem f_Seen_agrees_57 : fx n_Seen_agrees 57 = some (.iconst 0, 58, []) := (congrArg (fun t => fxl t 57) e_44).trans rfl
theorem f_Seen_agrees_58 : fx n_Seen_agrees 58 = some (.ireturn, 59, []) := (congrArg (fun t => fxl t 58) e_44).trans rfl
theorem f_Seen_agrees_59 : fx n_Seen_agrees 59 = some (.iinc 4 1, 62, []) := (congrArg (fun t => fxl t 59) e_44).trans rfl
theorem f_Seen_agrees_62 : fx n_Seen_agrees 62 = some (.goto (-59), 65, [3]) := (congrArg (fun t => fxl t 62) e_44).trans rfl
theorem f_Seen_agrees_65 : fx n_Seen_agrees 65 = some (.iconst 1, 66, []) := (congrArg (fun t => fxl t 65) e_44).trans rfl
theorem f_Seen_agrees_66 : fx n_Seen_agrees 66 = some (.ireturn, 67, []) := (congrArg (fun t => fxl t 66) e_44).trans rfl
theorem f_Seen_tellingRain_0 : fx n_Seen_tellingRain 0 = some (.aload_n 0, 1, []) := (congrArg (fun t => fxl t 0) e_45).trans rfl
theorem f_Seen_tellingRain_1 : fx n_Seen_tellingRain 1 = some (.aload_n 1, 2, []) := (congrArg (fun t => fxl t 1) e_45).trans rfl
theorem f_Seen_tellingRain_2 : fx n_Seen_tellingRain 2 = some (.iload_n 2, 3, []) := (congrArg (fun t => fxl t 2) e_45).trans rfl
theorem f_Seen_tellingRain_3 : fx n_Seen_tellingRain 3 = some (.invokevirtual 42, 6, [43, 2]) := (congrArg (fun t => fxl t 3) e_45).trans rfl
theorem f_Seen_tellingRain_6 : fx n_Seen_tellingRain 6 = some (.istore_n 3, 7, []) := (congrArg (fun t => fxl t 6) e_45).trans rfl
theorem f_Seen_tellingRain_7 : fx n_Seen_tellingRain 7 = some (.iload_n 3, 8, []) := (congrArg (fun t => fxl t 7) e_45).trans rfl
theorem f_Seen_tellingRain_8 : fx n_Seen_tellingRain 8 = some (.ifCond .ne 5, 11, [13]) := (congrArg (fun t => fxl t 8) e_45).trans rfl
theorem f_Seen_tellingRain_11 : fx n_Seen_tellingRain 11 = some (.iconst (-1), 12, []) := (congrArg (fun t => fxl t 11) e_45).trans rfl
theorem f_Seen_tellingRain_12 : fx n_Seen_tellingRain 12 = some (.ireturn, 13, []) := (congrArg (fun t => fxl t 12) e_45).trans rfl
theorem f_Seen_tellingRain_13 : fx n_Seen_tellingRain 13 = some (.iconst 0, 14, []) := (congrArg (fun t => fxl t 13) e_45).trans rfl
theorem f_Seen_tellingRain_14 : fx n_Seen_tellingRain 14 = some (.istore 4, 16, []) := (congrArg (fun t => fxl t 14) e_45).trans rfl
theorem f_Seen_tellingRain_16 : fx n_Seen_tellingRain 16 = some (.aload_n 1, 17, []) := (congrArg (fun t => fxl t 16) e_45).trans rfl
theorem f_Seen_tellingRain_17 : fx n_Seen_tellingRain 17 = some (.iload_n 2, 18, []) := (congrArg (fun t => fxl t 17) e_45).trans rfl
theorem f_Seen_tellingRain_18 : fx n_Seen_tellingRain 18 = some (.iload_n 3, 19, []) := (congrArg (fun t => fxl t 18) e_45).trans rfl
theorem f_Seen_tellingRain_19 : fx n_Seen_tellingRain 19 = some (.iconst 0, 20, []) := (congrArg (fun t => fxl t 19) e_45).trans rfl
theorem f_Seen_tellingRain_20 : fx n_Seen_tellingRain 20 = some (.invokestatic 46, 23, [46, 4]) := (congrArg (fun t => fxl t 20) e_45).trans rfl
theorem f_Seen_tellingRain_23 : fx n_Seen_tellingRain 23 = some (.istore 5, 25, []) := (congrArg (fun t => fxl t 23) e_45).trans rfl
theorem f_Seen_tellingRain_25 : fx n_Seen_tellingRain 25 = some (.iconst 1, 26, []) := (congrArg (fun t => fxl t 25) e_45).trans rfl
theorem f_Seen_tellingRain_26 : fx n_Seen_tellingRain 26 = some (.istore 6, 28, []) := (congrArg (fun t => fxl t 26) e_45).trans rfl
theorem f_Seen_tellingRain_28 : fx n_Seen_tellingRain 28 = some (.iload 6, 30, []) := (congrArg (fun t => fxl t 28) e_45).trans rfl
theorem f_Seen_tellingRain_30 : fx n_Seen_tellingRain 30 = some (.bipush 20, 32, []) := (congrArg (fun t => fxl t 30) e_45).trans rfl
theorem f_Seen_tellingRain_32 : fx n_Seen_tellingRain 32 = some (.if_icmp .gt 34, 35, [66]) := (congrArg (fun t => fxl t 32) e_45).trans rfl
theorem f_Seen_tellingRain_35 : fx n_Seen_tellingRain 35 = some (.aload_n 1, 36, []) := (congrArg (fun t => fxl t 35) e_45).trans rfl
theorem f_Seen_tellingRain_36 : fx n_Seen_tellingRain 36 = some (.iload_n 2, 37, []) := (congrArg (fun t => fxl t 36) e_45).trans rfl
theorem f_Seen_tellingRain_37 : fx n_Seen_tellingRain 37 = some (.iload_n 3, 38, []) := (congrArg (fun t => fxl t 37) e_45).trans rfl
theorem f_Seen_tellingRain_38 : fx n_Seen_tellingRain 38 = some (.iload 6, 40, []) := (congrArg (fun t => fxl t 38) e_45).trans rfl
theorem f_Seen_tellingRain_40 : fx n_Seen_tellingRain 40 = some (.invokestatic 46, 43, [46, 4]) := (congrArg (fun t => fxl t 40) e_45).trans rfl
theorem f_Seen_tellingRain_43 : fx n_Seen_tellingRain 43 = some (.istore 7, 45, []) := (congrArg (fun t => fxl t 43) e_45).trans rfl
theorem f_Seen_tellingRain_45 : fx n_Seen_tellingRain 45 = some (.iload 7, 47, []) := (congrArg (fun t => fxl t 45) e_45).trans rfl
theorem f_Seen_tellingRain_47 : fx n_Seen_tellingRain 47 = some (.iload 5, 49, []) := (congrArg (fun t => fxl t 47) e_45).trans rfl
theorem f_Seen_tellingRain_49 : fx n_Seen_tellingRain 49 = some (.if_icmp .ge 11, 52, [60]) := (congrArg (fun t => fxl t 49) e_45).trans rfl
theorem f_Seen_tellingRain_52 : fx n_Seen_tellingRain 52 = some (.iload 7, 54, []) := (congrArg (fun t => fxl t 52) e_45).trans rfl
theorem f_Seen_tellingRain_54 : fx n_Seen_tellingRain 54 = some (.istore 5, 56, []) := (congrArg (fun t => fxl t 54) e_45).trans rfl
theorem f_Seen_tellingRain_56 : fx n_Seen_tellingRain 56 = some (.iload 6, 58, []) := (congrArg (fun t => fxl t 56) e_45).trans rfl
theorem f_Seen_tellingRain_58 : fx n_Seen_tellingRain 58 = some (.istore 4, 60, []) := (congrArg (fun t => fxl t 58) e_45).trans rfl
theorem f_Seen_tellingRain_60 : fx n_Seen_tellingRain 60 = some (.iinc 6 1, 63, []) := (congrArg (fun t => fxl t 60) e_45).trans rfl
theorem f_Seen_tellingRain_63 : fx n_Seen_tellingRain 63 = some (.goto (-35), 66, [28]) := (congrArg (fun t => fxl t 63) e_45).trans rfl
theorem f_Seen_tellingRain_66 : fx n_Seen_tellingRain 66 = some (.iload 4, 68, []) := (congrArg (fun t => fxl t 66) e_45).trans rfl
theorem f_Seen_tellingRain_68 : fx n_Seen_tellingRain 68 = some (.ireturn, 69, []) := (congrArg (fun t => fxl t 68) e_45).trans rfl
theorem f_Seen_leftAtWorst_0 : fx n_Seen_leftAtWorst 0 = some (.iconst 0, 1, []) := (congrArg (fun t => fxl t 0) e_46).trans rfl
theorem f_Seen_leftAtWorst_1 : fx n_Seen_leftAtWorst 1 = some (.istore 4, 3, []) := (congrArg (fun t => fxl t 1) e_46).trans rfl
theorem f_Seen_leftAtWorst_3 : fx n_Seen_leftAtWorst 3 = some (.iconst 0, 4, []) := (congrArg (fun t => fxl t 3) e_46).trans rfl
theorem f_Seen_leftAtWorst_4 : fx n_Seen_leftAtWorst 4 = some (.istore 5, 6, []) := (congrArg (fun t => fxl t 4) e_46).trans rfl
theorem f_Seen_leftAtWorst_6 : fx n_Seen_leftAtWorst 6 = some (.iload 5, 8, []) := (congrArg (fun t => fxl t 6) e_46).trans rfl
theorem f_Seen_leftAtWorst_8 : fx n_Seen_leftAtWorst 8 = some (.bipush 9, 10, []) := (congrArg (fun t => fxl t 8) e_46).trans rfl
theorem f_Seen_leftAtWorst_10 : fx n_Seen_leftAtWorst 10 = some (.if_icmp .gt 56, 13, [66]) := (congrArg (fun t => fxl t 10) e_46).trans rfl
theorem f_Seen_leftAtWorst_13 : fx n_Seen_leftAtWorst 13 = some (.iload_n 2, 14, []) := (congrArg (fun t => fxl t 13) e_46).trans rfl
theorem f_Seen_leftAtWorst_14 : fx n_Seen_leftAtWorst 14 = some (.iload 5, 16, []) := (congrArg (fun t => fxl t 14) e_46).trans rfl
theorem f_Seen_leftAtWorst_16 : fx n_Seen_leftAtWorst 16 = some (.ishr, 17, []) := (congrArg (fun t => fxl t 16) e_46).trans rfl
theorem f_Seen_leftAtWorst_17 : fx n_Seen_leftAtWorst 17 = some (.iconst 1, 18, []) := (congrArg (fun t => fxl t 17) e_46).trans rfl
theorem f_Seen_leftAtWorst_18 : fx n_Seen_leftAtWorst 18 = some (.iand, 19, []) := (congrArg (fun t => fxl t 18) e_46).trans rfl
theorem f_Seen_leftAtWorst_19 : fx n_Seen_leftAtWorst 19 = some (.iconst 1, 20, []) := (congrArg (fun t => fxl t 19) e_46).trans rfl
theorem f_Seen_leftAtWorst_20 : fx n_Seen_leftAtWorst 20 = some (.if_icmp .ne 7, 23, [27]) := (congrArg (fun t => fxl t 20) e_46).trans rfl
theorem f_Seen_leftAtWorst_23 : fx n_Seen_leftAtWorst 23 = some (.iconst 1, 24, []) := (congrArg (fun t => fxl t 23) e_46).trans rfl
theorem f_Seen_leftAtWorst_24 : fx n_Seen_leftAtWorst 24 = some (.goto 4, 27, [28]) := (congrArg (fun t => fxl t 24) e_46).trans rfl
theorem f_Seen_leftAtWorst_27 : fx n_Seen_leftAtWorst 27 = some (.iconst 0, 28, []) := (congrArg (fun t => fxl t 27) e_46).trans rfl
theorem f_Seen_leftAtWorst_28 : fx n_Seen_leftAtWorst 28 = some (.istore 6, 30, []) := (congrArg (fun t => fxl t 28) e_46).trans rfl
theorem f_Seen_leftAtWorst_30 : fx n_Seen_leftAtWorst 30 = some (.iload 6, 32, []) := (congrArg (fun t => fxl t 30) e_46).trans rfl
theorem f_Seen_leftAtWorst_32 : fx n_Seen_leftAtWorst 32 = some (.ifCond .eq 28, 35, [60]) := (congrArg (fun t => fxl t 32) e_46).trans rfl
theorem f_Seen_leftAtWorst_35 : fx n_Seen_leftAtWorst 35 = some (.aload_n 0, 36, []) := (congrArg (fun t => fxl t 35) e_46).trans rfl
theorem f_Seen_leftAtWorst_36 : fx n_Seen_leftAtWorst 36 = some (.getfield 30, 39, [2, 4]) := (congrArg (fun t => fxl t 36) e_46).trans rfl
theorem f_Seen_leftAtWorst_39 : fx n_Seen_leftAtWorst 39 = some (.iload_n 1, 40, []) := (congrArg (fun t => fxl t 39) e_46).trans rfl
theorem f_Seen_leftAtWorst_40 : fx n_Seen_leftAtWorst 40 = some (.iaload, 41, []) := (congrArg (fun t => fxl t 40) e_46).trans rfl
theorem f_Seen_leftAtWorst_41 : fx n_Seen_leftAtWorst 41 = some (.aload_n 0, 42, []) := (congrArg (fun t => fxl t 41) e_46).trans rfl
theorem f_Seen_leftAtWorst_42 : fx n_Seen_leftAtWorst 42 = some (.getfield 35, 45, [2, 8]) := (congrArg (fun t => fxl t 42) e_46).trans rfl
theorem f_Seen_leftAtWorst_45 : fx n_Seen_leftAtWorst 45 = some (.iload_n 1, 46, []) := (congrArg (fun t => fxl t 45) e_46).trans rfl
theorem f_Seen_leftAtWorst_46 : fx n_Seen_leftAtWorst 46 = some (.iaload, 47, []) := (congrArg (fun t => fxl t 46) e_46).trans rfl
theorem f_Seen_leftAtWorst_47 : fx n_Seen_leftAtWorst 47 = some (.iload_n 3, 48, []) := (congrArg (fun t => fxl t 47) e_46).trans rfl
theorem f_Seen_leftAtWorst_48 : fx n_Seen_leftAtWorst 48 = some (.iadd, 49, []) := (congrArg (fun t => fxl t 48) e_46).trans rfl
theorem f_Seen_leftAtWorst_49 : fx n_Seen_leftAtWorst 49 = some (.iload 5, 51, []) := (congrArg (fun t => fxl t 49) e_46).trans rfl
theorem f_Seen_leftAtWorst_51 : fx n_Seen_leftAtWorst 51 = some (.invokestatic 38, 54, [81, 3]) := (congrArg (fun t => fxl t 51) e_46).trans rfl
theorem f_Seen_leftAtWorst_54 : fx n_Seen_leftAtWorst 54 = some (.ifCond .eq 6, 57, [60]) := (congrArg (fun t => fxl t 54) e_46).trans rfl
theorem f_Seen_leftAtWorst_57 : fx n_Seen_leftAtWorst 57 = some (.iinc 4 1, 60, []) := (congrArg (fun t => fxl t 57) e_46).trans rfl
theorem f_Seen_leftAtWorst_60 : fx n_Seen_leftAtWorst 60 = some (.iinc 5 1, 63, []) := (congrArg (fun t => fxl t 60) e_46).trans rfl
theorem f_Seen_leftAtWorst_63 : fx n_Seen_leftAtWorst 63 = some (.goto (-57), 66, [6]) := (congrArg (fun t => fxl t 63) e_46).trans rfl
theorem f_Seen_leftAtWorst_66 : fx n_Seen_leftAtWorst 66 = some (.iload 4, 68, []) := (congrArg (fun t => fxl t 66) e_46).trans rfl
theorem f_Seen_leftAtWorst_68 : fx n_Seen_leftAtWorst 68 = some (.iload_n 2, 69, []) := (congrArg (fun t => fxl t 68) e_46).trans rfl
theorem f_Seen_leftAtWorst_69 : fx n_Seen_leftAtWorst 69 = some (.invokestatic 50, 72, [151, 1]) := (congrArg (fun t => fxl t 69) e_46).trans rfl
theorem f_Seen_leftAtWorst_72 : fx n_Seen_leftAtWorst 72 = some (.iload 4, 74, []) := (congrArg (fun t => fxl t 72) e_46).trans rfl
theorem f_Seen_leftAtWorst_74 : fx n_Seen_leftAtWorst 74 = some (.isub, 75, []) := (congrArg (fun t => fxl t 74) e_46).trans rfl
theorem f_Seen_leftAtWorst_75 : fx n_Seen_leftAtWorst 75 = some (.invokestatic 56, 78, [901, 2]) := (congrArg (fun t => fxl t 75) e_46).trans rfl
theorem f_Seen_leftAtWorst_78 : fx n_Seen_leftAtWorst 78 = some (.ireturn, 79, []) := (congrArg (fun t => fxl t 78) e_46).trans rfl
theorem f_Weirs_find_0 : fx n_Weirs_find 0 = some (.aload_n 0, 1, []) := (congrArg (fun t => fxl t 0) e_47).trans rfl
theorem f_Weirs_find_1 : fx n_Weirs_find 1 = some (.iconst (-1), 2, []) := (congrArg (fun t => fxl t 1) e_47).trans rfl
theorem f_Weirs_find_2 : fx n_Weirs_find 2 = some (.putfield 9, 5, [5, 0]) := (congrArg (fun t => fxl t 2) e_47).trans rfl
theorem f_Weirs_find_5 : fx n_Weirs_find 5 = some (.aload_n 0, 6, []) := (congrArg (fun t => fxl t 5) e_47).trans rfl
theorem f_Weirs_find_6 : fx n_Weirs_find 6 = some (.iconst (-1), 7, []) := (congrArg (fun t => fxl t 6) e_47).trans rfl
theorem f_Weirs_find_7 : fx n_Weirs_find 7 = some (.putfield 15, 10, [5, 1]) := (congrArg (fun t => fxl t 7) e_47).trans rfl
theorem f_Weirs_find_10 : fx n_Weirs_find 10 = some (.aload_n 2, 11, []) := (congrArg (fun t => fxl t 10) e_47).trans rfl
theorem f_Weirs_find_11 : fx n_Weirs_find 11 = some (.aload_n 1, 12, []) := (congrArg (fun t => fxl t 11) e_47).trans rfl
theorem f_Weirs_find_12 : fx n_Weirs_find 12 = some (.invokevirtual 18, 15, [17, 1]) := (congrArg (fun t => fxl t 12) e_47).trans rfl
theorem f_Weirs_find_15 : fx n_Weirs_find 15 = some (.iconst 0, 16, []) := (congrArg (fun t => fxl t 15) e_47).trans rfl
theorem f_Weirs_find_16 : fx n_Weirs_find 16 = some (.istore_n 3, 17, []) := (congrArg (fun t => fxl t 16) e_47).trans rfl
theorem f_Weirs_find_17 : fx n_Weirs_find 17 = some (.iload_n 3, 18, []) := (congrArg (fun t => fxl t 17) e_47).trans rfl
theorem f_Weirs_find_18 : fx n_Weirs_find 18 = some (.iconst 1, 19, []) := (congrArg (fun t => fxl t 18) e_47).trans rfl
theorem f_Weirs_find_19 : fx n_Weirs_find 19 = some (.aload_n 1, 20, []) := (congrArg (fun t => fxl t 19) e_47).trans rfl
theorem f_Weirs_find_20 : fx n_Weirs_find 20 = some (.getfield 24, 23, [2, 0]) := (congrArg (fun t => fxl t 20) e_47).trans rfl
theorem f_Weirs_find_23 : fx n_Weirs_find 23 = some (.ishl, 24, []) := (congrArg (fun t => fxl t 23) e_47).trans rfl
theorem f_Weirs_find_24 : fx n_Weirs_find 24 = some (.if_icmp .ge 52, 27, [76]) := (congrArg (fun t => fxl t 24) e_47).trans rfl
theorem f_Weirs_find_27 : fx n_Weirs_find 27 = some (.iload_n 3, 28, []) := (congrArg (fun t => fxl t 27) e_47).trans rfl
theorem f_Weirs_find_28 : fx n_Weirs_find 28 = some (.invokestatic 27, 31, [151, 1]) := (congrArg (fun t => fxl t 28) e_47).trans rfl
theorem f_Weirs_find_31 : fx n_Weirs_find 31 = some (.istore 4, 33, []) := (congrArg (fun t => fxl t 31) e_47).trans rfl
theorem f_Weirs_find_33 : fx n_Weirs_find 33 = some (.aload_n 0, 34, []) := (congrArg (fun t => fxl t 33) e_47).trans rfl
theorem f_Weirs_find_34 : fx n_Weirs_find 34 = some (.getfield 9, 37, [5, 0]) := (congrArg (fun t => fxl t 34) e_47).trans rfl
theorem f_Weirs_find_37 : fx n_Weirs_find 37 = some (.iconst (-1), 38, []) := (congrArg (fun t => fxl t 37) e_47).trans rfl
theorem f_Weirs_find_38 : fx n_Weirs_find 38 = some (.if_icmp .eq 12, 41, [50]) := (congrArg (fun t => fxl t 38) e_47).trans rfl
theorem f_Weirs_find_41 : fx n_Weirs_find 41 = some (.iload 4, 43, []) := (congrArg (fun t => fxl t 41) e_47).trans rfl
theorem f_Weirs_find_43 : fx n_Weirs_find 43 = some (.aload_n 0, 44, []) := (congrArg (fun t => fxl t 43) e_47).trans rfl
theorem f_Weirs_find_44 : fx n_Weirs_find 44 = some (.getfield 9, 47, [5, 0]) := (congrArg (fun t => fxl t 44) e_47).trans rfl
theorem f_Weirs_find_47 : fx n_Weirs_find 47 = some (.if_icmp .ge 23, 50, [70]) := (congrArg (fun t => fxl t 47) e_47).trans rfl
theorem f_Weirs_find_50 : fx n_Weirs_find 50 = some (.aload_n 1, 51, []) := (congrArg (fun t => fxl t 50) e_47).trans rfl
theorem f_Weirs_find_51 : fx n_Weirs_find 51 = some (.aload_n 2, 52, []) := (congrArg (fun t => fxl t 51) e_47).trans rfl
theorem f_Weirs_find_52 : fx n_Weirs_find 52 = some (.iload_n 3, 53, []) := (congrArg (fun t => fxl t 52) e_47).trans rfl
theorem f_Weirs_find_53 : fx n_Weirs_find 53 = some (.invokestatic 33, 56, [48, 3]) := (congrArg (fun t => fxl t 53) e_47).trans rfl
theorem f_Weirs_find_56 : fx n_Weirs_find 56 = some (.ifCond .eq 14, 59, [70]) := (congrArg (fun t => fxl t 56) e_47).trans rfl
theorem f_Weirs_find_59 : fx n_Weirs_find 59 = some (.aload_n 0, 60, []) := (congrArg (fun t => fxl t 59) e_47).trans rfl
theorem f_Weirs_find_60 : fx n_Weirs_find 60 = some (.iload 4, 62, []) := (congrArg (fun t => fxl t 60) e_47).trans rfl
theorem f_Weirs_find_62 : fx n_Weirs_find 62 = some (.putfield 9, 65, [5, 0]) := (congrArg (fun t => fxl t 62) e_47).trans rfl
theorem f_Weirs_find_65 : fx n_Weirs_find 65 = some (.aload_n 0, 66, []) := (congrArg (fun t => fxl t 65) e_47).trans rfl
theorem f_Weirs_find_66 : fx n_Weirs_find 66 = some (.iload_n 3, 67, []) := (congrArg (fun t => fxl t 66) e_47).trans rfl
theorem f_Weirs_find_67 : fx n_Weirs_find 67 = some (.putfield 15, 70, [5, 1]) := (congrArg (fun t => fxl t 67) e_47).trans rfl
theorem f_Weirs_find_70 : fx n_Weirs_find 70 = some (.iinc 3 1, 73, []) := (congrArg (fun t => fxl t 70) e_47).trans rfl
theorem f_Weirs_find_73 : fx n_Weirs_find 73 = some (.goto (-56), 76, [17]) := (congrArg (fun t => fxl t 73) e_47).trans rfl
theorem f_Weirs_find_76 : fx n_Weirs_find 76 = some (.return_, 77, []) := (congrArg (fun t => fxl t 76) e_47).trans rfl
theorem f_Weirs_keepsDry_0 : fx n_Weirs_keepsDry 0 = some (.iconst 0, 1, []) := (congrArg (fun t => fxl t 0) e_48).trans rfl
theorem f_Weirs_keepsDry_1 : fx n_Weirs_keepsDry 1 = some (.istore_n 3, 2, []) := (congrArg (fun t => fxl t 1) e_48).trans rfl
theorem f_Weirs_keepsDry_2 : fx n_Weirs_keepsDry 2 = some (.iload_n 3, 3, []) := (congrArg (fun t => fxl t 2) e_48).trans rfl
theorem f_Weirs_keepsDry_3 : fx n_Weirs_keepsDry 3 = some (.aload_n 0, 4, []) := (congrArg (fun t => fxl t 3) e_48).trans rfl
theorem f_Weirs_keepsDry_4 : fx n_Weirs_keepsDry 4 = some (.getfield 24, 7, [2, 0]) := (congrArg (fun t => fxl t 4) e_48).trans rfl
theorem f_Weirs_keepsDry_7 : fx n_Weirs_keepsDry 7 = some (.if_icmp .ge 34, 10, [41]) := (congrArg (fun t => fxl t 7) e_48).trans rfl
theorem f_Weirs_keepsDry_10 : fx n_Weirs_keepsDry 10 = some (.aload_n 1, 11, []) := (congrArg (fun t => fxl t 10) e_48).trans rfl
theorem f_Weirs_keepsDry_11 : fx n_Weirs_keepsDry 11 = some (.getfield 37, 14, [2, 4]) := (congrArg (fun t => fxl t 11) e_48).trans rfl
theorem f_Weirs_keepsDry_14 : fx n_Weirs_keepsDry 14 = some (.iload_n 3, 15, []) := (congrArg (fun t => fxl t 14) e_48).trans rfl
theorem f_Weirs_keepsDry_15 : fx n_Weirs_keepsDry 15 = some (.iload_n 2, 16, []) := (congrArg (fun t => fxl t 15) e_48).trans rfl
theorem f_Weirs_keepsDry_16 : fx n_Weirs_keepsDry 16 = some (.iload_n 3, 17, []) := (congrArg (fun t => fxl t 16) e_48).trans rfl
theorem f_Weirs_keepsDry_17 : fx n_Weirs_keepsDry 17 = some (.ishr, 18, []) := (congrArg (fun t => fxl t 17) e_48).trans rfl
theorem f_Weirs_keepsDry_18 : fx n_Weirs_keepsDry 18 = some (.iconst 1, 19, []) := (congrArg (fun t => fxl t 18) e_48).trans rfl
theorem f_Weirs_keepsDry_19 : fx n_Weirs_keepsDry 19 = some (.iand, 20, []) := (congrArg (fun t => fxl t 19) e_48).trans rfl
theorem f_Weirs_keepsDry_20 : fx n_Weirs_keepsDry 20 = some (.iconst 1, 21, []) := (congrArg (fun t => fxl t 20) e_48).trans rfl
theorem f_Weirs_keepsDry_21 : fx n_Weirs_keepsDry 21 = some (.if_icmp .ne 7, 24, [28]) := (congrArg (fun t => fxl t 21) e_48).trans rfl
theorem f_Weirs_keepsDry_24 : fx n_Weirs_keepsDry 24 = some (.iconst 3, 25, []) := (congrArg (fun t => fxl t 24) e_48).trans rfl
theorem f_Weirs_keepsDry_25 : fx n_Weirs_keepsDry 25 = some (.goto 9, 28, [34]) := (congrArg (fun t => fxl t 25) e_48).trans rfl
theorem f_Weirs_keepsDry_28 : fx n_Weirs_keepsDry 28 = some (.aload_n 0, 29, []) := (congrArg (fun t => fxl t 28) e_48).trans rfl
theorem f_Weirs_keepsDry_29 : fx n_Weirs_keepsDry 29 = some (.getfield 37, 32, [2, 4]) := (congrArg (fun t => fxl t 29) e_48).trans rfl
theorem f_Weirs_keepsDry_32 : fx n_Weirs_keepsDry 32 = some (.iload_n 3, 33, []) := (congrArg (fun t => fxl t 32) e_48).trans rfl
theorem f_Weirs_keepsDry_33 : fx n_Weirs_keepsDry 33 = some (.iaload, 34, []) := (congrArg (fun t => fxl t 33) e_48).trans rfl
theorem f_Weirs_keepsDry_34 : fx n_Weirs_keepsDry 34 = some (.iastore, 35, []) := (congrArg (fun t => fxl t 34) e_48).trans rfl
theorem f_Weirs_keepsDry_35 : fx n_Weirs_keepsDry 35 = some (.iinc 3 1, 38, []) := (congrArg (fun t => fxl t 35) e_48).trans rfl
theorem f_Weirs_keepsDry_38 : fx n_Weirs_keepsDry 38 = some (.goto (-36), 41, [2]) := (congrArg (fun t => fxl t 38) e_48).trans rfl
theorem f_Weirs_keepsDry_41 : fx n_Weirs_keepsDry 41 = some (.aload_n 1, 42, []) := (congrArg (fun t => fxl t 41) e_48).trans rfl
theorem f_Weirs_keepsDry_42 : fx n_Weirs_keepsDry 42 = some (.invokevirtual 41, 45, [18, 0]) := (congrArg (fun t => fxl t 42) e_48).trans rfl
theorem f_Weirs_keepsDry_45 : fx n_Weirs_keepsDry 45 = some (.aload_n 1, 46, []) := (congrArg (fun t => fxl t 45) e_48).trans rfl
theorem f_Weirs_keepsDry_46 : fx n_Weirs_keepsDry 46 = some (.invokevirtual 44, 49, [28, 0]) := (congrArg (fun t => fxl t 46) e_48).trans rfl
theorem f_Weirs_keepsDry_49 : fx n_Weirs_keepsDry 49 = some (.ifCond .ne 7, 52, [56]) := (congrArg (fun t => fxl t 49) e_48).trans rfl
theorem f_Weirs_keepsDry_52 : fx n_Weirs_keepsDry 52 = some (.iconst 1, 53, []) := (congrArg (fun t => fxl t 52) e_48).trans rfl
theorem f_Weirs_keepsDry_53 : fx n_Weirs_keepsDry 53 = some (.goto 4, 56, [57]) := (congrArg (fun t => fxl t 53) e_48).trans rfl
theorem f_Weirs_keepsDry_56 : fx n_Weirs_keepsDry 56 = some (.iconst 0, 57, []) := (congrArg (fun t => fxl t 56) e_48).trans rfl
theorem f_Weirs_keepsDry_57 : fx n_Weirs_keepsDry 57 = some (.ireturn, 58, []) := (congrArg (fun t => fxl t 57) e_48).trans rfl
theorem f_Weirs_told_0 : fx n_Weirs_told 0 = some (.iload_n 1, 1, []) := (congrArg (fun t => fxl t 0) e_49).trans rfl
theorem f_Weirs_told_1 : fx n_Weirs_told 1 = some (.ifCond .ne 10, 4, [11]) := (congrArg (fun t => fxl t 1) e_49).trans rfl
theorem f_Weirs_told_4 : fx n_Weirs_told 4 = some (.aload_n 0, 5, []) := (congrArg (fun t => fxl t 4) e_49).trans rfl
theorem f_Weirs_told_5 : fx n_Weirs_told 5 = some (.getfield 9, 8, [5, 0]) := (congrArg (fun t => fxl t 5) e_49).trans rfl
theorem f_Weirs_told_8 : fx n_Weirs_told 8 = some (.goto 7, 11, [15]) := (congrArg (fun t => fxl t 8) e_49).trans rfl
theorem f_Weirs_told_11 : fx n_Weirs_told 11 = some (.aload_n 0, 12, []) := (congrArg (fun t => fxl t 11) e_49).trans rfl
theorem f_Weirs_told_12 : fx n_Weirs_told 12 = some (.getfield 15, 15, [5, 1]) := (congrArg (fun t => fxl t 12) e_49).trans rfl
theorem f_Weirs_told_15 : fx n_Weirs_told 15 = some (.ireturn, 16, []) := (congrArg (fun t => fxl t 15) e_49).trans rfl
theorem f_RL_letter_0 : fx n_RL_letter 0 = some (.iload_n 1, 1, []) := (congrArg (fun t => fxl t 0) e_50).trans rfl
theorem f_RL_letter_1 : fx n_RL_letter 1 = some (.iconst 1, 2, []) := (congrArg (fun t => fxl t 1) e_50).trans rfl
theorem f_RL_letter_2 : fx n_RL_letter 2 = some (.if_icmp .lt 9, 5, [11]) := (congrArg (fun t => fxl t 2) e_50).trans rfl
theorem f_RL_letter_5 : fx n_RL_letter 5 = some (.iload_n 1, 6, []) := (congrArg (fun t => fxl t 5) e_50).trans rfl
theorem f_RL_letter_6 : fx n_RL_letter 6 = some (.bipush 126, 8, []) := (congrArg (fun t => fxl t 6) e_50).trans rfl
theorem f_RL_letter_8 : fx n_RL_letter 8 = some (.if_icmp .le 6, 11, [14]) := (congrArg (fun t => fxl t 8) e_50).trans rfl
theorem f_RL_letter_11 : fx n_RL_letter 11 = some (.bipush (-102), 13, []) := (congrArg (fun t => fxl t 11) e_50).trans rfl
theorem f_RL_letter_13 : fx n_RL_letter 13 = some (.ireturn, 14, []) := (congrArg (fun t => fxl t 13) e_50).trans rfl
theorem f_RL_letter_14 : fx n_RL_letter 14 = some (.aload_n 0, 15, []) := (congrArg (fun t => fxl t 14) e_50).trans rfl
theorem f_RL_letter_15 : fx n_RL_letter 15 = some (.getfield 12, 18, [6, 0]) := (congrArg (fun t => fxl t 15) e_50).trans rfl
theorem f_RL_letter_18 : fx n_RL_letter 18 = some (.getfield 68, 21, [1, 1]) := (congrArg (fun t => fxl t 18) e_50).trans rfl
theorem f_RL_letter_21 : fx n_RL_letter 21 = some (.bipush 42, 23, []) := (congrArg (fun t => fxl t 21) e_50).trans rfl
theorem f_RL_letter_23 : fx n_RL_letter 23 = some (.if_icmp .lt 6, 26, [29]) := (congrArg (fun t => fxl t 23) e_50).trans rfl
theorem f_RL_letter_26 : fx n_RL_letter 26 = some (.bipush (-104), 28, []) := (congrArg (fun t => fxl t 26) e_50).trans rfl
theorem f_RL_letter_28 : fx n_RL_letter 28 = some (.ireturn, 29, []) := (congrArg (fun t => fxl t 28) e_50).trans rfl
theorem f_RL_letter_29 : fx n_RL_letter 29 = some (.aload_n 0, 30, []) := (congrArg (fun t => fxl t 29) e_50).trans rfl
theorem f_RL_letter_30 : fx n_RL_letter 30 = some (.getfield 12, 33, [6, 0]) := (congrArg (fun t => fxl t 30) e_50).trans rfl
theorem f_RL_letter_33 : fx n_RL_letter 33 = some (.getfield 71, 36, [1, 0]) := (congrArg (fun t => fxl t 33) e_50).trans rfl
theorem f_RL_letter_36 : fx n_RL_letter 36 = some (.aload_n 0, 37, []) := (congrArg (fun t => fxl t 36) e_50).trans rfl
theorem f_RL_letter_37 : fx n_RL_letter 37 = some (.getfield 12, 40, [6, 0]) := (congrArg (fun t => fxl t 37) e_50).trans rfl
theorem f_RL_letter_40 : fx n_RL_letter 40 = some (.getfield 68, 43, [1, 1]) := (congrArg (fun t => fxl t 40) e_50).trans rfl
theorem f_RL_letter_43 : fx n_RL_letter 43 = some (.iload_n 1, 44, []) := (congrArg (fun t => fxl t 43) e_50).trans rfl
theorem f_RL_letter_44 : fx n_RL_letter 44 = some (.iastore, 45, []) := (congrArg (fun t => fxl t 44) e_50).trans rfl
theorem f_RL_letter_45 : fx n_RL_letter 45 = some (.aload_n 0, 46, []) := (congrArg (fun t => fxl t 45) e_50).trans rfl
theorem f_RL_letter_46 : fx n_RL_letter 46 = some (.getfield 12, 49, [6, 0]) := (congrArg (fun t => fxl t 46) e_50).trans rfl
theorem f_RL_letter_49 : fx n_RL_letter 49 = some (.dup, 50, []) := (congrArg (fun t => fxl t 49) e_50).trans rfl
theorem f_RL_letter_50 : fx n_RL_letter 50 = some (.getfield 68, 53, [1, 1]) := (congrArg (fun t => fxl t 50) e_50).trans rfl
theorem f_RL_letter_53 : fx n_RL_letter 53 = some (.iconst 1, 54, []) := (congrArg (fun t => fxl t 53) e_50).trans rfl
theorem f_RL_letter_54 : fx n_RL_letter 54 = some (.iadd, 55, []) := (congrArg (fun t => fxl t 54) e_50).trans rfl
theorem f_RL_letter_55 : fx n_RL_letter 55 = some (.putfield 68, 58, [1, 1]) := (congrArg (fun t => fxl t 55) e_50).trans rfl
theorem f_RL_letter_58 : fx n_RL_letter 58 = some (.aload_n 0, 59, []) := (congrArg (fun t => fxl t 58) e_50).trans rfl
theorem f_RL_letter_59 : fx n_RL_letter 59 = some (.getfield 12, 62, [6, 0]) := (congrArg (fun t => fxl t 59) e_50).trans rfl
theorem f_RL_letter_62 : fx n_RL_letter 62 = some (.getfield 68, 65, [1, 1]) := (congrArg (fun t => fxl t 62) e_50).trans rfl
theorem f_RL_letter_65 : fx n_RL_letter 65 = some (.ireturn, 66, []) := (congrArg (fun t => fxl t 65) e_50).trans rfl
theorem f_RL_blank_0 : fx n_RL_blank 0 = some (.aload_n 0, 1, []) := (congrArg (fun t => fxl t 0) e_51).trans rfl
theorem f_RL_blank_1 : fx n_RL_blank 1 = some (.getfield 12, 4, [6, 0]) := (congrArg (fun t => fxl t 1) e_51).trans rfl
theorem f_RL_blank_4 : fx n_RL_blank 4 = some (.getfield 68, 7, [1, 1]) := (congrArg (fun t => fxl t 4) e_51).trans rfl
theorem f_RL_blank_7 : fx n_RL_blank 7 = some (.istore_n 1, 8, []) := (congrArg (fun t => fxl t 7) e_51).trans rfl
theorem f_RL_blank_8 : fx n_RL_blank 8 = some (.aload_n 0, 9, []) := (congrArg (fun t => fxl t 8) e_51).trans rfl
theorem f_RL_blank_9 : fx n_RL_blank 9 = some (.getfield 12, 12, [6, 0]) := (congrArg (fun t => fxl t 9) e_51).trans rfl
theorem f_RL_blank_12 : fx n_RL_blank 12 = some (.iconst 0, 13, []) := (congrArg (fun t => fxl t 12) e_51).trans rfl
theorem f_RL_blank_13 : fx n_RL_blank 13 = some (.putfield 68, 16, [1, 1]) := (congrArg (fun t => fxl t 13) e_51).trans rfl
theorem f_RL_blank_16 : fx n_RL_blank 16 = some (.iload_n 1, 17, []) := (congrArg (fun t => fxl t 16) e_51).trans rfl
theorem f_RL_blank_17 : fx n_RL_blank 17 = some (.ireturn, 18, []) := (congrArg (fun t => fxl t 17) e_51).trans rfl
theorem f_RL_fault_0 : fx n_RL_fault 0 = some (.aload_n 0, 1, []) := (congrArg (fun t => fxl t 0) e_52).trans rfl
theorem f_RL_fault_1 : fx n_RL_fault 1 = some (.getfield 12, 4, [6, 0]) := (congrArg (fun t => fxl t 1) e_52).trans rfl
theorem f_RL_fault_4 : fx n_RL_fault 4 = some (.invokevirtual 75, 7, [5, 0]) := (congrArg (fun t => fxl t 4) e_52).trans rfl
theorem f_RL_fault_7 : fx n_RL_fault 7 = some (.ireturn, 8, []) := (congrArg (fun t => fxl t 7) e_52).trans rfl
theorem f_RL_river_0 : fx n_RL_river 0 = some (.aload_n 0, 1, []) := (congrArg (fun t => fxl t 0) e_53).trans rfl
theorem f_RL_river_1 : fx n_RL_river 1 = some (.getfield 12, 4, [6, 0]) := (congrArg (fun t => fxl t 1) e_53).trans rfl
theorem f_RL_river_4 : fx n_RL_river 4 = some (.invokevirtual 79, 7, [6, 0]) := (congrArg (fun t => fxl t 4) e_53).trans rfl
theorem f_RL_river_7 : fx n_RL_river 7 = some (.istore_n 1, 8, []) := (congrArg (fun t => fxl t 7) e_53).trans rfl
theorem f_RL_river_8 : fx n_RL_river 8 = some (.iload_n 1, 9, []) := (congrArg (fun t => fxl t 8) e_53).trans rfl
theorem f_RL_river_9 : fx n_RL_river 9 = some (.ifCond .ne 6, 12, [15]) := (congrArg (fun t => fxl t 9) e_53).trans rfl
theorem f_RL_river_12 : fx n_RL_river 12 = some (.bipush (-103), 14, []) := (congrArg (fun t => fxl t 12) e_53).trans rfl
theorem f_RL_river_14 : fx n_RL_river 14 = some (.ireturn, 15, []) := (congrArg (fun t => fxl t 14) e_53).trans rfl
theorem f_RL_river_15 : fx n_RL_river 15 = some (.aload_n 0, 16, []) := (congrArg (fun t => fxl t 15) e_53).trans rfl
theorem f_RL_river_16 : fx n_RL_river 16 = some (.getfield 19, 19, [6, 1]) := (congrArg (fun t => fxl t 16) e_53).trans rfl
theorem f_RL_river_19 : fx n_RL_river 19 = some (.aload_n 0, 20, []) := (congrArg (fun t => fxl t 19) e_53).trans rfl
theorem f_RL_river_20 : fx n_RL_river 20 = some (.getfield 12, 23, [6, 0]) := (congrArg (fun t => fxl t 20) e_53).trans rfl
theorem f_RL_river_23 : fx n_RL_river 23 = some (.iload_n 1, 24, []) := (congrArg (fun t => fxl t 23) e_53).trans rfl
theorem f_RL_river_24 : fx n_RL_river 24 = some (.invokevirtual 82, 27, [16, 2]) := (congrArg (fun t => fxl t 24) e_53).trans rfl
theorem f_RL_river_27 : fx n_RL_river 27 = some (.aload_n 0, 28, []) := (congrArg (fun t => fxl t 27) e_53).trans rfl
theorem f_RL_river_28 : fx n_RL_river 28 = some (.getfield 12, 31, [6, 0]) := (congrArg (fun t => fxl t 28) e_53).trans rfl
theorem f_RL_river_31 : fx n_RL_river 31 = some (.iconst 0, 32, []) := (congrArg (fun t => fxl t 31) e_53).trans rfl
theorem f_RL_river_32 : fx n_RL_river 32 = some (.putfield 68, 35, [1, 1]) := (congrArg (fun t => fxl t 32) e_53).trans rfl
theorem f_RL_river_35 : fx n_RL_river 35 = some (.aload_n 0, 36, []) := (congrArg (fun t => fxl t 35) e_53).trans rfl
theorem f_RL_river_36 : fx n_RL_river 36 = some (.getfield 32, 39, [6, 4]) := (congrArg (fun t => fxl t 36) e_53).trans rfl
theorem f_RL_river_39 : fx n_RL_river 39 = some (.iconst 0, 40, []) := (congrArg (fun t => fxl t 39) e_53).trans rfl
theorem f_RL_river_40 : fx n_RL_river 40 = some (.putfield 86, 43, [4, 0]) := (congrArg (fun t => fxl t 40) e_53).trans rfl
theorem f_RL_river_43 : fx n_RL_river 43 = some (.aload_n 0, 44, []) := (congrArg (fun t => fxl t 43) e_53).trans rfl
theorem f_RL_river_44 : fx n_RL_river 44 = some (.iconst 0, 45, []) := (congrArg (fun t => fxl t 44) e_53).trans rfl
theorem f_RL_river_45 : fx n_RL_river 45 = some (.putfield 60, 48, [6, 9]) := (congrArg (fun t => fxl t 45) e_53).trans rfl
theorem f_RL_river_48 : fx n_RL_river 48 = some (.aload_n 0, 49, []) := (congrArg (fun t => fxl t 48) e_53).trans rfl
theorem f_RL_river_49 : fx n_RL_river 49 = some (.dup, 50, []) := (congrArg (fun t => fxl t 49) e_53).trans rfl
theorem f_RL_river_50 : fx n_RL_river 50 = some (.getfield 64, 53, [6, 10]) := (congrArg (fun t => fxl t 50) e_53).trans rfl
theorem f_RL_river_53 : fx n_RL_river 53 = some (.iconst 1, 54, []) := (congrArg (fun t => fxl t 53) e_53).trans rfl
theorem f_RL_river_54 : fx n_RL_river 54 = some (.iadd, 55, []) := (congrArg (fun t => fxl t 54) e_53).trans rfl
theorem f_RL_river_55 : fx n_RL_river 55 = some (.putfield 64, 58, [6, 10]) := (congrArg (fun t => fxl t 55) e_53).trans rfl
theorem f_RL_river_58 : fx n_RL_river 58 = some (.iload_n 1, 59, []) := (congrArg (fun t => fxl t 58) e_53).trans rfl
theorem f_RL_river_59 : fx n_RL_river 59 = some (.ireturn, 60, []) := (congrArg (fun t => fxl t 59) e_53).trans rfl
theorem f_RL_reach_0 : fx n_RL_reach 0 = some (.aload_n 0, 1, []) := (congrArg (fun t => fxl t 0) e_54).trans rfl
theorem f_RL_reach_1 : fx n_RL_reach 1 = some (.getfield 19, 4, [6, 1]) := (congrArg (fun t => fxl t 1) e_54).trans rfl
theorem f_RL_reach_4 : fx n_RL_reach 4 = some (.iload_n 1, 5, []) := (congrArg (fun t => fxl t 4) e_54).trans rfl
theorem f_RL_reach_5 : fx n_RL_reach 5 = some (.invokevirtual 87, 8, [14, 1]) := (congrArg (fun t => fxl t 5) e_54).trans rfl
theorem f_RL_reach_8 : fx n_RL_reach 8 = some (.ifCond .ne 6, 11, [14]) := (congrArg (fun t => fxl t 8) e_54).trans rfl
theorem f_RL_reach_11 : fx n_RL_reach 11 = some (.bipush (-101), 13, []) := (congrArg (fun t => fxl t 11) e_54).trans rfl
theorem f_RL_reach_13 : fx n_RL_reach 13 = some (.ireturn, 14, []) := (congrArg (fun t => fxl t 13) e_54).trans rfl
theorem f_RL_reach_14 : fx n_RL_reach 14 = some (.iload_n 2, 15, []) := (congrArg (fun t => fxl t 14) e_54).trans rfl
theorem f_RL_reach_15 : fx n_RL_reach 15 = some (.tableswitch 211 0 12 #[65, 75, 85, 95, 105, 115, 124, 141, 150, 163, 176, 185, 194], 80, [226, 80, 90, 100, 110, 120, 130, 139, 156, 165, 178, 191, 200, 209]) := (congrArg (fun t => fxl t 15) e_54).trans rfl
theorem f_RL_reach_80 : fx n_RL_reach 80 = some (.aload_n 0, 81, []) := (congrArg (fun t => fxl t 80) e_54).trans rfl
theorem f_RL_reach_81 : fx n_RL_reach 81 = some (.getfield 19, 84, [6, 1]) := (congrArg (fun t => fxl t 81) e_54).trans rfl
theorem f_RL_reach_84 : fx n_RL_reach 84 = some (.getfield 91, 87, [2, 4]) := (congrArg (fun t => fxl t 84) e_54).trans rfl
theorem f_RL_reach_87 : fx n_RL_reach 87 = some (.iload_n 1, 88, []) := (congrArg (fun t => fxl t 87) e_54).trans rfl
theorem f_RL_reach_88 : fx n_RL_reach 88 = some (.iaload, 89, []) := (congrArg (fun t => fxl t 88) e_54).trans rfl
theorem f_RL_reach_89 : fx n_RL_reach 89 = some (.ireturn, 90, []) := (congrArg (fun t => fxl t 89) e_54).trans rfl
theorem f_RL_reach_90 : fx n_RL_reach 90 = some (.aload_n 0, 91, []) := (congrArg (fun t => fxl t 90) e_54).trans rfl
theorem f_RL_reach_91 : fx n_RL_reach 91 = some (.getfield 19, 94, [6, 1]) := (congrArg (fun t => fxl t 91) e_54).trans rfl
theorem f_RL_reach_94 : fx n_RL_reach 94 = some (.getfield 94, 97, [2, 5]) := (congrArg (fun t => fxl t 94) e_54).trans rfl
theorem f_RL_reach_97 : fx n_RL_reach 97 = some (.iload_n 1, 98, []) := (congrArg (fun t => fxl t 97) e_54).trans rfl
theorem f_RL_reach_98 : fx n_RL_reach 98 = some (.iaload, 99, []) := (congrArg (fun t => fxl t 98) e_54).trans rfl
theorem f_RL_reach_99 : fx n_RL_reach 99 = some (.ireturn, 100, []) := (congrArg (fun t => fxl t 99) e_54).trans rfl
theorem f_RL_reach_100 : fx n_RL_reach 100 = some (.aload_n 0, 101, []) := (congrArg (fun t => fxl t 100) e_54).trans rfl
theorem f_RL_reach_101 : fx n_RL_reach 101 = some (.getfield 19, 104, [6, 1]) := (congrArg (fun t => fxl t 101) e_54).trans rfl
theorem f_RL_reach_104 : fx n_RL_reach 104 = some (.getfield 97, 107, [2, 6]) := (congrArg (fun t => fxl t 104) e_54).trans rfl
theorem f_RL_reach_107 : fx n_RL_reach 107 = some (.iload_n 1, 108, []) := (congrArg (fun t => fxl t 107) e_54).trans rfl
theorem f_RL_reach_108 : fx n_RL_reach 108 = some (.iaload, 109, []) := (congrArg (fun t => fxl t 108) e_54).trans rfl
theorem f_RL_reach_109 : fx n_RL_reach 109 = some (.ireturn, 110, []) := (congrArg (fun t => fxl t 109) e_54).trans rfl
theorem f_RL_reach_110 : fx n_RL_reach 110 = some (.aload_n 0, 111, []) := (congrArg (fun t => fxl t 110) e_54).trans rfl
theorem f_RL_reach_111 : fx n_RL_reach 111 = some (.getfield 19, 114, [6, 1]) := (congrArg (fun t => fxl t 111) e_54).trans rfl
theorem f_RL_reach_114 : fx n_RL_reach 114 = some (.getfield 100, 117, [2, 7]) := (congrArg (fun t => fxl t 114) e_54).trans rfl
theorem f_RL_reach_117 : fx n_RL_reach 117 = some (.iload_n 1, 118, []) := (congrArg (fun t => fxl t 117) e_54).trans rfl
theorem f_RL_reach_118 : fx n_RL_reach 118 = some (.iaload, 119, []) := (congrArg (fun t => fxl t 118) e_54).trans rfl
theorem f_RL_reach_119 : fx n_RL_reach 119 = some (.ireturn, 120, []) := (congrArg (fun t => fxl t 119) e_54).trans rfl
theorem f_RL_reach_120 : fx n_RL_reach 120 = some (.aload_n 0, 121, []) := (congrArg (fun t => fxl t 120) e_54).trans rfl
theorem f_RL_reach_121 : fx n_RL_reach 121 = some (.getfield 19, 124, [6, 1]) := (congrArg (fun t => fxl t 121) e_54).trans rfl
theorem f_RL_reach_124 : fx n_RL_reach 124 = some (.getfield 103, 127, [2, 8]) := (congrArg (fun t => fxl t 124) e_54).trans rfl
theorem f_RL_reach_127 : fx n_RL_reach 127 = some (.iload_n 1, 128, []) := (congrArg (fun t => fxl t 127) e_54).trans rfl
theorem f_RL_reach_128 : fx n_RL_reach 128 = some (.iaload, 129, []) := (congrArg (fun t => fxl t 128) e_54).trans rfl
theorem f_RL_reach_129 : fx n_RL_reach 129 = some (.ireturn, 130, []) := (congrArg (fun t => fxl t 129) e_54).trans rfl
theorem f_RL_reach_130 : fx n_RL_reach 130 = some (.aload_n 0, 131, []) := (congrArg (fun t => fxl t 130) e_54).trans rfl
theorem f_RL_reach_131 : fx n_RL_reach 131 = some (.getfield 19, 134, [6, 1]) := (congrArg (fun t => fxl t 131) e_54).trans rfl
theorem f_RL_reach_134 : fx n_RL_reach 134 = some (.iload_n 1, 135, []) := (congrArg (fun t => fxl t 134) e_54).trans rfl
theorem f_RL_reach_135 : fx n_RL_reach 135 = some (.invokevirtual 106, 138, [19, 1]) := (congrArg (fun t => fxl t 135) e_54).trans rfl
theorem f_RL_reach_138 : fx n_RL_reach 138 = some (.ireturn, 139, []) := (congrArg (fun t => fxl t 138) e_54).trans rfl
theorem f_RL_reach_139 : fx n_RL_reach 139 = some (.aload_n 0, 140, []) := (congrArg (fun t => fxl t 139) e_54).trans rfl
theorem f_RL_reach_140 : fx n_RL_reach 140 = some (.getfield 19, 143, [6, 1]) := (congrArg (fun t => fxl t 140) e_54).trans rfl
theorem f_RL_reach_143 : fx n_RL_reach 143 = some (.iload_n 1, 144, []) := (congrArg (fun t => fxl t 143) e_54).trans rfl
theorem f_RL_reach_144 : fx n_RL_reach 144 = some (.invokevirtual 110, 147, [20, 1]) := (congrArg (fun t => fxl t 144) e_54).trans rfl
theorem f_RL_reach_147 : fx n_RL_reach 147 = some (.ifCond .eq 7, 150, [154]) := (congrArg (fun t => fxl t 147) e_54).trans rfl
theorem f_RL_reach_150 : fx n_RL_reach 150 = some (.iconst 1, 151, []) := (congrArg (fun t => fxl t 150) e_54).trans rfl
theorem f_RL_reach_151 : fx n_RL_reach 151 = some (.goto 4, 154, [155]) := (congrArg (fun t => fxl t 151) e_54).trans rfl
theorem f_RL_reach_154 : fx n_RL_reach 154 = some (.iconst 0, 155, []) := (congrArg (fun t => fxl t 154) e_54).trans rfl
theorem f_RL_reach_155 : fx n_RL_reach 155 = some (.ireturn, 156, []) := (congrArg (fun t => fxl t 155) e_54).trans rfl
theorem f_RL_reach_156 : fx n_RL_reach 156 = some (.aload_n 0, 157, []) := (congrArg (fun t => fxl t 156) e_54).trans rfl
theorem f_RL_reach_157 : fx n_RL_reach 157 = some (.getfield 19, 160, [6, 1]) := (congrArg (fun t => fxl t 157) e_54).trans rfl
theorem f_RL_reach_160 : fx n_RL_reach 160 = some (.iload_n 1, 161, []) := (congrArg (fun t => fxl t 160) e_54).trans rfl
theorem f_RL_reach_161 : fx n_RL_reach 161 = some (.invokevirtual 113, 164, [22, 1]) := (congrArg (fun t => fxl t 161) e_54).trans rfl
theorem f_RL_reach_164 : fx n_RL_reach 164 = some (.ireturn, 165, []) := (congrArg (fun t => fxl t 164) e_54).trans rfl
theorem f_RL_reach_165 : fx n_RL_reach 165 = some (.aload_n 0, 166, []) := (congrArg (fun t => fxl t 165) e_54).trans rfl
theorem f_RL_reach_166 : fx n_RL_reach 166 = some (.getfield 32, 169, [6, 4]) := (congrArg (fun t => fxl t 166) e_54).trans rfl
theorem f_RL_reach_169 : fx n_RL_reach 169 = some (.aload_n 0, 170, []) := (congrArg (fun t => fxl t 169) e_54).trans rfl
theorem f_RL_reach_170 : fx n_RL_reach 170 = some (.getfield 19, 173, [6, 1]) := (congrArg (fun t => fxl t 170) e_54).trans rfl
theorem f_RL_reach_173 : fx n_RL_reach 173 = some (.iload_n 1, 174, []) := (congrArg (fun t => fxl t 173) e_54).trans rfl
theorem f_RL_reach_174 : fx n_RL_reach 174 = some (.invokevirtual 116, 177, [43, 2]) := (congrArg (fun t => fxl t 174) e_54).trans rfl
theorem f_RL_reach_177 : fx n_RL_reach 177 = some (.ireturn, 178, []) := (congrArg (fun t => fxl t 177) e_54).trans rfl
theorem f_RL_reach_178 : fx n_RL_reach 178 = some (.aload_n 0, 179, []) := (congrArg (fun t => fxl t 178) e_54).trans rfl
theorem f_RL_reach_179 : fx n_RL_reach 179 = some (.getfield 32, 182, [6, 4]) := (congrArg (fun t => fxl t 179) e_54).trans rfl
theorem f_RL_reach_182 : fx n_RL_reach 182 = some (.aload_n 0, 183, []) := (congrArg (fun t => fxl t 182) e_54).trans rfl
theorem f_RL_reach_183 : fx n_RL_reach 183 = some (.getfield 19, 186, [6, 1]) := (congrArg (fun t => fxl t 183) e_54).trans rfl
theorem f_RL_reach_186 : fx n_RL_reach 186 = some (.iload_n 1, 187, []) := (congrArg (fun t => fxl t 186) e_54).trans rfl
theorem f_RL_reach_187 : fx n_RL_reach 187 = some (.invokevirtual 120, 190, [45, 2]) := (congrArg (fun t => fxl t 187) e_54).trans rfl
theorem f_RL_reach_190 : fx n_RL_reach 190 = some (.ireturn, 191, []) := (congrArg (fun t => fxl t 190) e_54).trans rfl
theorem f_RL_reach_191 : fx n_RL_reach 191 = some (.aload_n 0, 192, []) := (congrArg (fun t => fxl t 191) e_54).trans rfl
theorem f_RL_reach_192 : fx n_RL_reach 192 = some (.getfield 19, 195, [6, 1]) := (congrArg (fun t => fxl t 192) e_54).trans rfl
theorem f_RL_reach_195 : fx n_RL_reach 195 = some (.iload_n 1, 196, []) := (congrArg (fun t => fxl t 195) e_54).trans rfl
theorem f_RL_reach_196 : fx n_RL_reach 196 = some (.invokevirtual 123, 199, [23, 1]) := (congrArg (fun t => fxl t 196) e_54).trans rfl
theorem f_RL_reach_199 : fx n_RL_reach 199 = some (.ireturn, 200, []) := (congrArg (fun t => fxl t 199) e_54).trans rfl
theorem f_RL_reach_200 : fx n_RL_reach 200 = some (.aload_n 0, 201, []) := (congrArg (fun t => fxl t 200) e_54).trans rfl
theorem f_RL_reach_201 : fx n_RL_reach 201 = some (.getfield 19, 204, [6, 1]) := (congrArg (fun t => fxl t 201) e_54).trans rfl
theorem f_RL_reach_204 : fx n_RL_reach 204 = some (.iload_n 1, 205, []) := (congrArg (fun t => fxl t 204) e_54).trans rfl
theorem f_RL_reach_205 : fx n_RL_reach 205 = some (.invokevirtual 126, 208, [24, 1]) := (congrArg (fun t => fxl t 205) e_54).trans rfl
theorem f_RL_reach_208 : fx n_RL_reach 208 = some (.ireturn, 209, []) := (congrArg (fun t => fxl t 208) e_54).trans rfl
theorem f_RL_reach_209 : fx n_RL_reach 209 = some (.aload_n 0, 210, []) := (congrArg (fun t => fxl t 209) e_54).trans rfl
theorem f_RL_reach_210 : fx n_RL_reach 210 = some (.getfield 19, 213, [6, 1]) := (congrArg (fun t => fxl t 210) e_54).trans rfl
theorem f_RL_reach_213 : fx n_RL_reach 213 = some (.iload_n 1, 214, []) := (congrArg (fun t => fxl t 213) e_54).trans rfl
theorem f_RL_reach_214 : fx n_RL_reach 214 = some (.invokevirtual 129, 217, [21, 1]) := (congrArg (fun t => fxl t 214) e_54).trans rfl
theorem f_RL_reach_217 : fx n_RL_reach 217 = some (.ifCond .eq 7, 220, [224]) := (congrArg (fun t => fxl t 217) e_54).trans rfl
theorem f_RL_reach_220 : fx n_RL_reach 220 = some (.iconst 1, 221, []) := (congrArg (fun t => fxl t 220) e_54).trans rfl
theorem f_RL_reach_221 : fx n_RL_reach 221 = some (.goto 4, 224, [225]) := (congrArg (fun t => fxl t 221) e_54).trans rfl
theorem f_RL_reach_224 : fx n_RL_reach 224 = some (.iconst 0, 225, []) := (congrArg (fun t => fxl t 224) e_54).trans rfl
theorem f_RL_reach_225 : fx n_RL_reach 225 = some (.ireturn, 226, []) := (congrArg (fun t => fxl t 225) e_54).trans rfl
theorem f_RL_reach_226 : fx n_RL_reach 226 = some (.bipush (-102), 228, []) := (congrArg (fun t => fxl t 226) e_54).trans rfl
theorem f_RL_reach_228 : fx n_RL_reach 228 = some (.ireturn, 229, []) := (congrArg (fun t => fxl t 228) e_54).trans rfl
theorem f_RL_as_0 : fx n_RL_as 0 = some (.aload_n 0, 1, []) := (congrArg (fun t => fxl t 0) e_55).trans rfl
theorem f_RL_as_1 : fx n_RL_as 1 = some (.getfield 19, 4, [6, 1]) := (congrArg (fun t => fxl t 1) e_55).trans rfl
theorem f_RL_as_4 : fx n_RL_as 4 = some (.iload_n 1, 5, []) := (congrArg (fun t => fxl t 4) e_55).trans rfl
theorem f_RL_as_5 : fx n_RL_as 5 = some (.invokevirtual 87, 8, [14, 1]) := (congrArg (fun t => fxl t 5) e_55).trans rfl
theorem f_RL_as_8 : fx n_RL_as 8 = some (.ifCond .ne 6, 11, [14]) := (congrArg (fun t => fxl t 8) e_55).trans rfl
theorem f_RL_as_11 : fx n_RL_as 11 = some (.bipush (-101), 13, []) := (congrArg (fun t => fxl t 11) e_55).trans rfl
theorem f_RL_as_13 : fx n_RL_as 13 = some (.ireturn, 14, []) := (congrArg (fun t => fxl t 13) e_55).trans rfl
theorem f_RL_as_14 : fx n_RL_as 14 = some (.iload_n 2, 15, []) := (congrArg (fun t => fxl t 14) e_55).trans rfl
theorem f_RL_as_15 : fx n_RL_as 15 = some (.invokestatic 132, 18, [78, 1]) := (congrArg (fun t => fxl t 15) e_55).trans rfl
theorem f_RL_as_18 : fx n_RL_as 18 = some (.ifCond .ne 6, 21, [24]) := (congrArg (fun t => fxl t 18) e_55).trans rfl
theorem f_RL_as_21 : fx n_RL_as 21 = some (.bipush (-102), 23, []) := (congrArg (fun t => fxl t 21) e_55).trans rfl
theorem f_RL_as_23 : fx n_RL_as 23 = some (.ireturn, 24, []) := (congrArg (fun t => fxl t 23) e_55).trans rfl
theorem f_RL_as_24 : fx n_RL_as 24 = some (.iload_n 2, 25, []) := (congrArg (fun t => fxl t 24) e_55).trans rfl
theorem f_RL_as_25 : fx n_RL_as 25 = some (.ifCond .eq 36, 28, [61]) := (congrArg (fun t => fxl t 25) e_55).trans rfl
theorem f_RL_as_28 : fx n_RL_as 28 = some (.iload_n 2, 29, []) := (congrArg (fun t => fxl t 28) e_55).trans rfl
theorem f_RL_as_29 : fx n_RL_as 29 = some (.aload_n 0, 30, []) := (congrArg (fun t => fxl t 29) e_55).trans rfl
theorem f_RL_as_30 : fx n_RL_as 30 = some (.getfield 19, 33, [6, 1]) := (congrArg (fun t => fxl t 30) e_55).trans rfl
theorem f_RL_as_33 : fx n_RL_as 33 = some (.getfield 91, 36, [2, 4]) := (congrArg (fun t => fxl t 33) e_55).trans rfl
theorem f_RL_as_36 : fx n_RL_as 36 = some (.iload_n 1, 37, []) := (congrArg (fun t => fxl t 36) e_55).trans rfl
theorem f_RL_as_37 : fx n_RL_as 37 = some (.iaload, 38, []) := (congrArg (fun t => fxl t 37) e_55).trans rfl
theorem f_RL_as_38 : fx n_RL_as 38 = some (.if_icmp .eq 23, 41, [61]) := (congrArg (fun t => fxl t 38) e_55).trans rfl
theorem f_RL_as_41 : fx n_RL_as 41 = some (.iload_n 2, 42, []) := (congrArg (fun t => fxl t 41) e_55).trans rfl
theorem f_RL_as_42 : fx n_RL_as 42 = some (.iconst 1, 43, []) := (congrArg (fun t => fxl t 42) e_55).trans rfl
theorem f_RL_as_43 : fx n_RL_as 43 = some (.if_icmp .ne 22, 46, [65]) := (congrArg (fun t => fxl t 43) e_55).trans rfl
theorem f_RL_as_46 : fx n_RL_as 46 = some (.aload_n 0, 47, []) := (congrArg (fun t => fxl t 46) e_55).trans rfl
theorem f_RL_as_47 : fx n_RL_as 47 = some (.getfield 19, 50, [6, 1]) := (congrArg (fun t => fxl t 47) e_55).trans rfl
theorem f_RL_as_50 : fx n_RL_as 50 = some (.getfield 91, 53, [2, 4]) := (congrArg (fun t => fxl t 50) e_55).trans rfl
theorem f_RL_as_53 : fx n_RL_as 53 = some (.iload_n 1, 54, []) := (congrArg (fun t => fxl t 53) e_55).trans rfl
theorem f_RL_as_54 : fx n_RL_as 54 = some (.iaload, 55, []) := (congrArg (fun t => fxl t 54) e_55).trans rfl
theorem f_RL_as_55 : fx n_RL_as 55 = some (.invokestatic 135, 58, [79, 1]) := (congrArg (fun t => fxl t 55) e_55).trans rfl
theorem f_RL_as_58 : fx n_RL_as 58 = some (.ifCond .eq 7, 61, [65]) := (congrArg (fun t => fxl t 58) e_55).trans rfl
theorem f_RL_as_61 : fx n_RL_as 61 = some (.iconst 1, 62, []) := (congrArg (fun t => fxl t 61) e_55).trans rfl
theorem f_RL_as_62 : fx n_RL_as 62 = some (.goto 4, 65, [66]) := (congrArg (fun t => fxl t 62) e_55).trans rfl
theorem f_RL_as_65 : fx n_RL_as 65 = some (.iconst 0, 66, []) := (congrArg (fun t => fxl t 65) e_55).trans rfl
theorem f_RL_as_66 : fx n_RL_as 66 = some (.istore_n 3, 67, []) := (congrArg (fun t => fxl t 66) e_55).trans rfl
theorem f_RL_as_67 : fx n_RL_as 67 = some (.iload_n 3, 68, []) := (congrArg (fun t => fxl t 67) e_55).trans rfl
theorem f_RL_as_68 : fx n_RL_as 68 = some (.ifCond .eq 7, 71, [75]) := (congrArg (fun t => fxl t 68) e_55).trans rfl
theorem f_RL_as_71 : fx n_RL_as 71 = some (.iload_n 1, 72, []) := (congrArg (fun t => fxl t 71) e_55).trans rfl
theorem f_RL_as_72 : fx n_RL_as 72 = some (.goto 4, 75, [76]) := (congrArg (fun t => fxl t 72) e_55).trans rfl
theorem f_RL_as_75 : fx n_RL_as 75 = some (.iconst (-1), 76, []) := (congrArg (fun t => fxl t 75) e_55).trans rfl
theorem f_RL_as_76 : fx n_RL_as 76 = some (.ireturn, 77, []) := (congrArg (fun t => fxl t 76) e_55).trans rfl
theorem f_RL_governess_0 : fx n_RL_governess 0 = some (.aload_n 0, 1, []) := (congrArg (fun t => fxl t 0) e_56).trans rfl
theorem f_RL_governess_1 : fx n_RL_governess 1 = some (.getfield 19, 4, [6, 1]) := (congrArg (fun t => fxl t 1) e_56).trans rfl
theorem f_RL_governess_4 : fx n_RL_governess 4 = some (.iload_n 1, 5, []) := (congrArg (fun t => fxl t 4) e_56).trans rfl
theorem f_RL_governess_5 : fx n_RL_governess 5 = some (.invokevirtual 138, 8, [15, 1]) := (congrArg (fun t => fxl t 5) e_56).trans rfl
theorem f_RL_governess_8 : fx n_RL_governess 8 = some (.ifCond .eq 15, 11, [23]) := (congrArg (fun t => fxl t 8) e_56).trans rfl
theorem f_RL_governess_11 : fx n_RL_governess 11 = some (.aload_n 0, 12, []) := (congrArg (fun t => fxl t 11) e_56).trans rfl
theorem f_RL_governess_12 : fx n_RL_governess 12 = some (.getfield 19, 15, [6, 1]) := (congrArg (fun t => fxl t 12) e_56).trans rfl
theorem f_RL_governess_15 : fx n_RL_governess 15 = some (.getfield 141, 18, [2, 9]) := (congrArg (fun t => fxl t 15) e_56).trans rfl
theorem f_RL_governess_18 : fx n_RL_governess 18 = some (.iload_n 1, 19, []) := (congrArg (fun t => fxl t 18) e_56).trans rfl
theorem f_RL_governess_19 : fx n_RL_governess 19 = some (.iaload, 20, []) := (congrArg (fun t => fxl t 19) e_56).trans rfl
theorem f_RL_governess_20 : fx n_RL_governess 20 = some (.goto 5, 23, [25]) := (congrArg (fun t => fxl t 20) e_56).trans rfl
theorem f_RL_governess_23 : fx n_RL_governess 23 = some (.bipush (-101), 25, []) := (congrArg (fun t => fxl t 23) e_56).trans rfl
theorem f_RL_governess_25 : fx n_RL_governess 25 = some (.ireturn, 26, []) := (congrArg (fun t => fxl t 25) e_56).trans rfl
theorem f_RL_send_0 : fx n_RL_send 0 = some (.aload_n 0, 1, []) := (congrArg (fun t => fxl t 0) e_57).trans rfl
theorem f_RL_send_1 : fx n_RL_send 1 = some (.getfield 19, 4, [6, 1]) := (congrArg (fun t => fxl t 1) e_57).trans rfl
theorem f_RL_send_4 : fx n_RL_send 4 = some (.iload_n 1, 5, []) := (congrArg (fun t => fxl t 4) e_57).trans rfl
theorem f_RL_send_5 : fx n_RL_send 5 = some (.invokevirtual 138, 8, [15, 1]) := (congrArg (fun t => fxl t 5) e_57).trans rfl
theorem f_RL_send_8 : fx n_RL_send 8 = some (.ifCond .eq 14, 11, [22]) := (congrArg (fun t => fxl t 8) e_57).trans rfl
theorem f_RL_send_11 : fx n_RL_send 11 = some (.aload_n 0, 12, []) := (congrArg (fun t => fxl t 11) e_57).trans rfl
theorem f_RL_send_12 : fx n_RL_send 12 = some (.getfield 19, 15, [6, 1]) := (congrArg (fun t => fxl t 12) e_57).trans rfl
theorem f_RL_send_15 : fx n_RL_send 15 = some (.iload_n 2, 16, []) := (congrArg (fun t => fxl t 15) e_57).trans rfl
theorem f_RL_send_16 : fx n_RL_send 16 = some (.invokevirtual 87, 19, [14, 1]) := (congrArg (fun t => fxl t 16) e_57).trans rfl
theorem f_RL_send_19 : fx n_RL_send 19 = some (.ifCond .ne 6, 22, [25]) := (congrArg (fun t => fxl t 19) e_57).trans rfl
theorem f_RL_send_22 : fx n_RL_send 22 = some (.bipush (-101), 24, []) := (congrArg (fun t => fxl t 22) e_57).trans rfl
theorem f_RL_send_24 : fx n_RL_send 24 = some (.ireturn, 25, []) := (congrArg (fun t => fxl t 24) e_57).trans rfl
theorem f_RL_send_25 : fx n_RL_send 25 = some (.aload_n 0, 26, []) := (congrArg (fun t => fxl t 25) e_57).trans rfl
theorem f_RL_send_26 : fx n_RL_send 26 = some (.getfield 19, 29, [6, 1]) := (congrArg (fun t => fxl t 26) e_57).trans rfl
theorem f_RL_send_29 : fx n_RL_send 29 = some (.getfield 141, 32, [2, 9]) := (congrArg (fun t => fxl t 29) e_57).trans rfl
theorem f_RL_send_32 : fx n_RL_send 32 = some (.iload_n 1, 33, []) := (congrArg (fun t => fxl t 32) e_57).trans rfl
theorem f_RL_send_33 : fx n_RL_send 33 = some (.iaload, 34, []) := (congrArg (fun t => fxl t 33) e_57).trans rfl
theorem f_RL_send_34 : fx n_RL_send 34 = some (.istore_n 3, 35, []) := (congrArg (fun t => fxl t 34) e_57).trans rfl
theorem f_RL_send_35 : fx n_RL_send 35 = some (.aload_n 0, 36, []) := (congrArg (fun t => fxl t 35) e_57).trans rfl
theorem f_RL_send_36 : fx n_RL_send 36 = some (.getfield 19, 39, [6, 1]) := (congrArg (fun t => fxl t 36) e_57).trans rfl
theorem f_RL_send_39 : fx n_RL_send 39 = some (.getfield 141, 42, [2, 9]) := (congrArg (fun t => fxl t 39) e_57).trans rfl
theorem f_RL_send_42 : fx n_RL_send 42 = some (.iload_n 1, 43, []) := (congrArg (fun t => fxl t 42) e_57).trans rfl
theorem f_RL_send_43 : fx n_RL_send 43 = some (.iload_n 2, 44, []) := (congrArg (fun t => fxl t 43) e_57).trans rfl
theorem f_RL_send_44 : fx n_RL_send 44 = some (.iastore, 45, []) := (congrArg (fun t => fxl t 44) e_57).trans rfl
theorem f_RL_send_45 : fx n_RL_send 45 = some (.iload_n 3, 46, []) := (congrArg (fun t => fxl t 45) e_57).trans rfl
theorem f_RL_send_46 : fx n_RL_send 46 = some (.ireturn, 47, []) := (congrArg (fun t => fxl t 46) e_57).trans rfl
theorem f_RL_month_0 : fx n_RL_month 0 = some (.aload_n 0, 1, []) := (congrArg (fun t => fxl t 0) e_58).trans rfl
theorem f_RL_month_1 : fx n_RL_month 1 = some (.invokevirtual 144, 4, [76, 0]) := (congrArg (fun t => fxl t 1) e_58).trans rfl
theorem f_RL_month_4 : fx n_RL_month 4 = some (.ifCond .ne 6, 7, [10]) := (congrArg (fun t => fxl t 4) e_58).trans rfl
theorem f_RL_month_7 : fx n_RL_month 7 = some (.bipush (-103), 9, []) := (congrArg (fun t => fxl t 7) e_58).trans rfl
theorem f_RL_month_9 : fx n_RL_month 9 = some (.ireturn, 10, []) := (congrArg (fun t => fxl t 9) e_58).trans rfl
theorem f_RL_month_10 : fx n_RL_month 10 = some (.aload_n 0, 11, []) := (congrArg (fun t => fxl t 10) e_58).trans rfl
theorem f_RL_month_11 : fx n_RL_month 11 = some (.getfield 19, 14, [6, 1]) := (congrArg (fun t => fxl t 11) e_58).trans rfl
theorem f_RL_month_14 : fx n_RL_month 14 = some (.getfield 148, 17, [2, 2]) := (congrArg (fun t => fxl t 14) e_58).trans rfl
theorem f_RL_month_17 : fx n_RL_month 17 = some (.sipush 999, 20, []) := (congrArg (fun t => fxl t 17) e_58).trans rfl
theorem f_RL_month_20 : fx n_RL_month 20 = some (.if_icmp .lt 6, 23, [26]) := (congrArg (fun t => fxl t 20) e_58).trans rfl
theorem f_RL_month_23 : fx n_RL_month 23 = some (.bipush (-104), 25, []) := (congrArg (fun t => fxl t 23) e_58).trans rfl
theorem f_RL_month_25 : fx n_RL_month 25 = some (.ireturn, 26, []) := (congrArg (fun t => fxl t 25) e_58).trans rfl
theorem f_RL_month_26 : fx n_RL_month 26 = some (.aload_n 0, 27, []) := (congrArg (fun t => fxl t 26) e_58).trans rfl
theorem f_RL_month_27 : fx n_RL_month 27 = some (.getfield 19, 30, [6, 1]) := (congrArg (fun t => fxl t 27) e_58).trans rfl
theorem f_RL_month_30 : fx n_RL_month 30 = some (.invokevirtual 151, 33, [27, 0]) := (congrArg (fun t => fxl t 30) e_58).trans rfl
theorem f_RL_month_33 : fx n_RL_month 33 = some (.aload_n 0, 34, []) := (congrArg (fun t => fxl t 33) e_58).trans rfl
theorem f_RL_month_34 : fx n_RL_month 34 = some (.getfield 19, 37, [6, 1]) := (congrArg (fun t => fxl t 34) e_58).trans rfl
theorem f_RL_month_37 : fx n_RL_month 37 = some (.getfield 148, 40, [2, 2]) := (congrArg (fun t => fxl t 37) e_58).trans rfl
theorem f_RL_month_40 : fx n_RL_month 40 = some (.ireturn, 41, []) := (congrArg (fun t => fxl t 40) e_58).trans rfl
theorem f_RL_rain_0 : fx n_RL_rain 0 = some (.aload_n 0, 1, []) := (congrArg (fun t => fxl t 0) e_59).trans rfl
theorem f_RL_rain_1 : fx n_RL_rain 1 = some (.getfield 19, 4, [6, 1]) := (congrArg (fun t => fxl t 1) e_59).trans rfl
theorem f_RL_rain_4 : fx n_RL_rain 4 = some (.iload_n 1, 5, []) := (congrArg (fun t => fxl t 4) e_59).trans rfl
theorem f_RL_rain_5 : fx n_RL_rain 5 = some (.invokevirtual 87, 8, [14, 1]) := (congrArg (fun t => fxl t 5) e_59).trans rfl
theorem f_RL_rain_8 : fx n_RL_rain 8 = some (.ifCond .ne 6, 11, [14]) := (congrArg (fun t => fxl t 8) e_59).trans rfl
theorem f_RL_rain_11 : fx n_RL_rain 11 = some (.bipush (-101), 13, []) := (congrArg (fun t => fxl t 11) e_59).trans rfl
theorem f_RL_rain_13 : fx n_RL_rain 13 = some (.ireturn, 14, []) := (congrArg (fun t => fxl t 13) e_59).trans rfl
theorem f_RL_rain_14 : fx n_RL_rain 14 = some (.iload_n 2, 15, []) := (congrArg (fun t => fxl t 14) e_59).trans rfl
theorem f_RL_rain_15 : fx n_RL_rain 15 = some (.ifCond .lt 9, 18, [24]) := (congrArg (fun t => fxl t 15) e_59).trans rfl
theorem f_RL_rain_18 : fx n_RL_rain 18 = some (.iload_n 2, 19, []) := (congrArg (fun t => fxl t 18) e_59).trans rfl
theorem f_RL_rain_19 : fx n_RL_rain 19 = some (.bipush 9, 21, []) := (congrArg (fun t => fxl t 19) e_59).trans rfl
theorem f_RL_rain_21 : fx n_RL_rain 21 = some (.if_icmp .le 6, 24, [27]) := (congrArg (fun t => fxl t 21) e_59).trans rfl
theorem f_RL_rain_24 : fx n_RL_rain 24 = some (.bipush (-102), 26, []) := (congrArg (fun t => fxl t 24) e_59).trans rfl
theorem f_RL_rain_26 : fx n_RL_rain 26 = some (.ireturn, 27, []) := (congrArg (fun t => fxl t 26) e_59).trans rfl
theorem f_RL_rain_27 : fx n_RL_rain 27 = some (.aload_n 0, 28, []) := (congrArg (fun t => fxl t 27) e_59).trans rfl
theorem f_RL_rain_28 : fx n_RL_rain 28 = some (.getfield 19, 31, [6, 1]) := (congrArg (fun t => fxl t 28) e_59).trans rfl
theorem f_RL_rain_31 : fx n_RL_rain 31 = some (.getfield 94, 34, [2, 5]) := (congrArg (fun t => fxl t 31) e_59).trans rfl
theorem f_RL_rain_34 : fx n_RL_rain 34 = some (.iload_n 1, 35, []) := (congrArg (fun t => fxl t 34) e_59).trans rfl
theorem f_RL_rain_35 : fx n_RL_rain 35 = some (.iaload, 36, []) := (congrArg (fun t => fxl t 35) e_59).trans rfl
theorem f_RL_rain_36 : fx n_RL_rain 36 = some (.istore_n 3, 37, []) := (congrArg (fun t => fxl t 36) e_59).trans rfl
theorem f_RL_rain_37 : fx n_RL_rain 37 = some (.aload_n 0, 38, []) := (congrArg (fun t => fxl t 37) e_59).trans rfl
theorem f_RL_rain_38 : fx n_RL_rain 38 = some (.getfield 19, 41, [6, 1]) := (congrArg (fun t => fxl t 38) e_59).trans rfl
theorem f_RL_rain_41 : fx n_RL_rain 41 = some (.getfield 94, 44, [2, 5]) := (congrArg (fun t => fxl t 41) e_59).trans rfl
theorem f_RL_rain_44 : fx n_RL_rain 44 = some (.iload_n 1, 45, []) := (congrArg (fun t => fxl t 44) e_59).trans rfl
theorem f_RL_rain_45 : fx n_RL_rain 45 = some (.iload_n 2, 46, []) := (congrArg (fun t => fxl t 45) e_59).trans rfl
theorem f_RL_rain_46 : fx n_RL_rain 46 = some (.iastore, 47, []) := (congrArg (fun t => fxl t 46) e_59).trans rfl
theorem f_RL_rain_47 : fx n_RL_rain 47 = some (.aload_n 0, 48, []) := (congrArg (fun t => fxl t 47) e_59).trans rfl
theorem f_RL_rain_48 : fx n_RL_rain 48 = some (.getfield 19, 51, [6, 1]) := (congrArg (fun t => fxl t 48) e_59).trans rfl
theorem f_RL_rain_51 : fx n_RL_rain 51 = some (.invokevirtual 154, 54, [18, 0]) := (congrArg (fun t => fxl t 51) e_59).trans rfl
theorem f_RL_rain_54 : fx n_RL_rain 54 = some (.iload_n 3, 55, []) := (congrArg (fun t => fxl t 54) e_59).trans rfl
theorem f_RL_rain_55 : fx n_RL_rain 55 = some (.ireturn, 56, []) := (congrArg (fun t => fxl t 55) e_59).trans rfl
theorem f_RL_make_0 : fx n_RL_make 0 = some (.aload_n 0, 1, []) := (congrArg (fun t => fxl t 0) e_60).trans rfl
theorem f_RL_make_1 : fx n_RL_make 1 = some (.getfield 19, 4, [6, 1]) := (congrArg (fun t => fxl t 1) e_60).trans rfl
theorem f_RL_make_4 : fx n_RL_make 4 = some (.iload_n 1, 5, []) := (congrArg (fun t => fxl t 4) e_60).trans rfl
theorem f_RL_make_5 : fx n_RL_make 5 = some (.invokevirtual 87, 8, [14, 1]) := (congrArg (fun t => fxl t 5) e_60).trans rfl
theorem f_RL_make_8 : fx n_RL_make 8 = some (.ifCond .ne 6, 11, [14]) := (congrArg (fun t => fxl t 8) e_60).trans rfl
theorem f_RL_make_11 : fx n_RL_make 11 = some (.bipush (-101), 13, []) := (congrArg (fun t => fxl t 11) e_60).trans rfl
theorem f_RL_make_13 : fx n_RL_make 13 = some (.ireturn, 14, []) := (congrArg (fun t => fxl t 13) e_60).trans rfl
theorem f_RL_make_14 : fx n_RL_make 14 = some (.iload_n 2, 15, []) := (congrArg (fun t => fxl t 14) e_60).trans rfl
theorem f_RL_make_15 : fx n_RL_make 15 = some (.invokestatic 132, 18, [78, 1]) := (congrArg (fun t => fxl t 15) e_60).trans rfl
theorem f_RL_make_18 : fx n_RL_make 18 = some (.ifCond .ne 6, 21, [24]) := (congrArg (fun t => fxl t 18) e_60).trans rfl
theorem f_RL_make_21 : fx n_RL_make 21 = some (.bipush (-102), 23, []) := (congrArg (fun t => fxl t 21) e_60).trans rfl
theorem f_RL_make_23 : fx n_RL_make 23 = some (.ireturn, 24, []) := (congrArg (fun t => fxl t 23) e_60).trans rfl
theorem f_RL_make_24 : fx n_RL_make 24 = some (.aload_n 0, 25, []) := (congrArg (fun t => fxl t 24) e_60).trans rfl
theorem f_RL_make_25 : fx n_RL_make 25 = some (.getfield 19, 28, [6, 1]) := (congrArg (fun t => fxl t 25) e_60).trans rfl
theorem f_RL_make_28 : fx n_RL_make 28 = some (.getfield 91, 31, [2, 4]) := (congrArg (fun t => fxl t 28) e_60).trans rfl
theorem f_RL_make_31 : fx n_RL_make 31 = some (.iload_n 1, 32, []) := (congrArg (fun t => fxl t 31) e_60).trans rfl
theorem f_RL_make_32 : fx n_RL_make 32 = some (.iaload, 33, []) := (congrArg (fun t => fxl t 32) e_60).trans rfl
theorem f_RL_make_33 : fx n_RL_make 33 = some (.istore_n 3, 34, []) := (congrArg (fun t => fxl t 33) e_60).trans rfl
theorem f_RL_make_34 : fx n_RL_make 34 = some (.aload_n 0, 35, []) := (congrArg (fun t => fxl t 34) e_60).trans rfl
theorem f_RL_make_35 : fx n_RL_make 35 = some (.getfield 19, 38, [6, 1]) := (congrArg (fun t => fxl t 35) e_60).trans rfl
theorem f_RL_make_38 : fx n_RL_make 38 = some (.getfield 91, 41, [2, 4]) := (congrArg (fun t => fxl t 38) e_60).trans rfl
theorem f_RL_make_41 : fx n_RL_make 41 = some (.iload_n 1, 42, []) := (congrArg (fun t => fxl t 41) e_60).trans rfl
theorem f_RL_make_42 : fx n_RL_make 42 = some (.iload_n 2, 43, []) := (congrArg (fun t => fxl t 42) e_60).trans rfl
theorem f_RL_make_43 : fx n_RL_make 43 = some (.iastore, 44, []) := (congrArg (fun t => fxl t 43) e_60).trans rfl
theorem f_RL_make_44 : fx n_RL_make 44 = some (.aload_n 0, 45, []) := (congrArg (fun t => fxl t 44) e_60).trans rfl
theorem f_RL_make_45 : fx n_RL_make 45 = some (.getfield 19, 48, [6, 1]) := (congrArg (fun t => fxl t 45) e_60).trans rfl
theorem f_RL_make_48 : fx n_RL_make 48 = some (.invokevirtual 154, 51, [18, 0]) := (congrArg (fun t => fxl t 48) e_60).trans rfl
theorem f_RL_make_51 : fx n_RL_make 51 = some (.iload_n 3, 52, []) := (congrArg (fun t => fxl t 51) e_60).trans rfl
theorem f_RL_make_52 : fx n_RL_make 52 = some (.ireturn, 53, []) := (congrArg (fun t => fxl t 52) e_60).trans rfl
theorem f_RL_spoil_0 : fx n_RL_spoil 0 = some (.aload_n 0, 1, []) := (congrArg (fun t => fxl t 0) e_61).trans rfl
theorem f_RL_spoil_1 : fx n_RL_spoil 1 = some (.getfield 19, 4, [6, 1]) := (congrArg (fun t => fxl t 1) e_61).trans rfl
theorem f_RL_spoil_4 : fx n_RL_spoil 4 = some (.iload_n 1, 5, []) := (congrArg (fun t => fxl t 4) e_61).trans rfl
theorem f_RL_spoil_5 : fx n_RL_spoil 5 = some (.invokevirtual 87, 8, [14, 1]) := (congrArg (fun t => fxl t 5) e_61).trans rfl
theorem f_RL_spoil_8 : fx n_RL_spoil 8 = some (.ifCond .ne 6, 11, [14]) := (congrArg (fun t => fxl t 8) e_61).trans rfl
theorem f_RL_spoil_11 : fx n_RL_spoil 11 = some (.bipush (-101), 13, []) := (congrArg (fun t => fxl t 11) e_61).trans rfl
theorem f_RL_spoil_13 : fx n_RL_spoil 13 = some (.ireturn, 14, []) := (congrArg (fun t => fxl t 13) e_61).trans rfl
theorem f_RL_spoil_14 : fx n_RL_spoil 14 = some (.iload_n 2, 15, []) := (congrArg (fun t => fxl t 14) e_61).trans rfl
theorem f_RL_spoil_15 : fx n_RL_spoil 15 = some (.ifCond .lt 9, 18, [24]) := (congrArg (fun t => fxl t 15) e_61).trans rfl
theorem f_RL_spoil_18 : fx n_RL_spoil 18 = some (.iload_n 2, 19, []) := (congrArg (fun t => fxl t 18) e_61).trans rfl
theorem f_RL_spoil_19 : fx n_RL_spoil 19 = some (.bipush 9, 21, []) := (congrArg (fun t => fxl t 19) e_61).trans rfl
theorem f_RL_spoil_21 : fx n_RL_spoil 21 = some (.if_icmp .le 6, 24, [27]) := (congrArg (fun t => fxl t 21) e_61).trans rfl
theorem f_RL_spoil_24 : fx n_RL_spoil 24 = some (.bipush (-102), 26, []) := (congrArg (fun t => fxl t 24) e_61).trans rfl
theorem f_RL_spoil_26 : fx n_RL_spoil 26 = some (.ireturn, 27, []) := (congrArg (fun t => fxl t 26) e_61).trans rfl
theorem f_RL_spoil_27 : fx n_RL_spoil 27 = some (.aload_n 0, 28, []) := (congrArg (fun t => fxl t 27) e_61).trans rfl
theorem f_RL_spoil_28 : fx n_RL_spoil 28 = some (.getfield 19, 31, [6, 1]) := (congrArg (fun t => fxl t 28) e_61).trans rfl
theorem f_RL_spoil_31 : fx n_RL_spoil 31 = some (.getfield 97, 34, [2, 6]) := (congrArg (fun t => fxl t 31) e_61).trans rfl
theorem f_RL_spoil_34 : fx n_RL_spoil 34 = some (.iload_n 1, 35, []) := (congrArg (fun t => fxl t 34) e_61).trans rfl
theorem f_RL_spoil_35 : fx n_RL_spoil 35 = some (.iaload, 36, []) := (congrArg (fun t => fxl t 35) e_61).trans rfl
theorem f_RL_spoil_36 : fx n_RL_spoil 36 = some (.istore_n 3, 37, []) := (congrArg (fun t => fxl t 36) e_61).trans rfl
theorem f_RL_spoil_37 : fx n_RL_spoil 37 = some (.aload_n 0, 38, []) := (congrArg (fun t => fxl t 37) e_61).trans rfl
theorem f_RL_spoil_38 : fx n_RL_spoil 38 = some (.getfield 19, 41, [6, 1]) := (congrArg (fun t => fxl t 38) e_61).trans rfl
theorem f_RL_spoil_41 : fx n_RL_spoil 41 = some (.getfield 97, 44, [2, 6]) := (congrArg (fun t => fxl t 41) e_61).trans rfl
theorem f_RL_spoil_44 : fx n_RL_spoil 44 = some (.iload_n 1, 45, []) := (congrArg (fun t => fxl t 44) e_61).trans rfl
theorem f_RL_spoil_45 : fx n_RL_spoil 45 = some (.iload_n 2, 46, []) := (congrArg (fun t => fxl t 45) e_61).trans rfl
theorem f_RL_spoil_46 : fx n_RL_spoil 46 = some (.iastore, 47, []) := (congrArg (fun t => fxl t 46) e_61).trans rfl
theorem f_RL_spoil_47 : fx n_RL_spoil 47 = some (.iload_n 3, 48, []) := (congrArg (fun t => fxl t 47) e_61).trans rfl
theorem f_RL_spoil_48 : fx n_RL_spoil 48 = some (.ireturn, 49, []) := (congrArg (fun t => fxl t 48) e_61).trans rfl
theorem f_RL_plan_0 : fx n_RL_plan 0 = some (.aload_n 0, 1, []) := (congrArg (fun t => fxl t 0) e_62).trans rfl
theorem f_RL_plan_1 : fx n_RL_plan 1 = some (.getfield 19, 4, [6, 1]) := (congrArg (fun t => fxl t 1) e_62).trans rfl
theorem f_RL_plan_4 : fx n_RL_plan 4 = some (.iload_n 1, 5, []) := (congrArg (fun t => fxl t 4) e_62).trans rfl
theorem f_RL_plan_5 : fx n_RL_plan 5 = some (.invokevirtual 138, 8, [15, 1]) := (congrArg (fun t => fxl t 5) e_62).trans rfl
theorem f_RL_plan_8 : fx n_RL_plan 8 = some (.ifCond .ne 6, 11, [14]) := (congrArg (fun t => fxl t 8) e_62).trans rfl
theorem f_RL_plan_11 : fx n_RL_plan 11 = some (.bipush (-101), 13, []) := (congrArg (fun t => fxl t 11) e_62).trans rfl
theorem f_RL_plan_13 : fx n_RL_plan 13 = some (.ireturn, 14, []) := (congrArg (fun t => fxl t 13) e_62).trans rfl
theorem f_RL_plan_14 : fx n_RL_plan 14 = some (.iload_n 2, 15, []) := (congrArg (fun t => fxl t 14) e_62).trans rfl
theorem f_RL_plan_15 : fx n_RL_plan 15 = some (.iconst 1, 16, []) := (congrArg (fun t => fxl t 15) e_62).trans rfl
theorem f_RL_plan_16 : fx n_RL_plan 16 = some (.if_icmp .lt 16, 19, [32]) := (congrArg (fun t => fxl t 16) e_62).trans rfl
theorem f_RL_plan_19 : fx n_RL_plan 19 = some (.iload_n 2, 20, []) := (congrArg (fun t => fxl t 19) e_62).trans rfl
theorem f_RL_plan_20 : fx n_RL_plan 20 = some (.iconst 4, 21, []) := (congrArg (fun t => fxl t 20) e_62).trans rfl
theorem f_RL_plan_21 : fx n_RL_plan 21 = some (.if_icmp .gt 11, 24, [32]) := (congrArg (fun t => fxl t 21) e_62).trans rfl
theorem f_RL_plan_24 : fx n_RL_plan 24 = some (.iload_n 3, 25, []) := (congrArg (fun t => fxl t 24) e_62).trans rfl
theorem f_RL_plan_25 : fx n_RL_plan 25 = some (.iconst 4, 26, []) := (congrArg (fun t => fxl t 25) e_62).trans rfl
theorem f_RL_plan_26 : fx n_RL_plan 26 = some (.invokestatic 157, 29, [32, 2]) := (congrArg (fun t => fxl t 26) e_62).trans rfl
theorem f_RL_plan_29 : fx n_RL_plan 29 = some (.ifCond .ne 6, 32, [35]) := (congrArg (fun t => fxl t 29) e_62).trans rfl
theorem f_RL_plan_32 : fx n_RL_plan 32 = some (.bipush (-102), 34, []) := (congrArg (fun t => fxl t 32) e_62).trans rfl
theorem f_RL_plan_34 : fx n_RL_plan 34 = some (.ireturn, 35, []) := (congrArg (fun t => fxl t 34) e_62).trans rfl
theorem f_RL_plan_35 : fx n_RL_plan 35 = some (.aload_n 0, 36, []) := (congrArg (fun t => fxl t 35) e_62).trans rfl
theorem f_RL_plan_36 : fx n_RL_plan 36 = some (.getfield 42, 39, [6, 6]) := (congrArg (fun t => fxl t 36) e_62).trans rfl
theorem f_RL_plan_39 : fx n_RL_plan 39 = some (.aload_n 0, 40, []) := (congrArg (fun t => fxl t 39) e_62).trans rfl
theorem f_RL_plan_40 : fx n_RL_plan 40 = some (.getfield 19, 43, [6, 1]) := (congrArg (fun t => fxl t 40) e_62).trans rfl
theorem f_RL_plan_43 : fx n_RL_plan 43 = some (.iload_n 1, 44, []) := (congrArg (fun t => fxl t 43) e_62).trans rfl
theorem f_RL_plan_44 : fx n_RL_plan 44 = some (.iload_n 2, 45, []) := (congrArg (fun t => fxl t 44) e_62).trans rfl
theorem f_RL_plan_45 : fx n_RL_plan 45 = some (.invokevirtual 161, 48, [33, 3]) := (congrArg (fun t => fxl t 45) e_62).trans rfl
theorem f_RL_plan_48 : fx n_RL_plan 48 = some (.aload_n 0, 49, []) := (congrArg (fun t => fxl t 48) e_62).trans rfl
theorem f_RL_plan_49 : fx n_RL_plan 49 = some (.getfield 42, 52, [6, 6]) := (congrArg (fun t => fxl t 49) e_62).trans rfl
theorem f_RL_plan_52 : fx n_RL_plan 52 = some (.iload_n 3, 53, []) := (congrArg (fun t => fxl t 52) e_62).trans rfl
theorem f_RL_plan_53 : fx n_RL_plan 53 = some (.invokevirtual 165, 56, [40, 1]) := (congrArg (fun t => fxl t 53) e_62).trans rfl
theorem f_RL_plan_56 : fx n_RL_plan 56 = some (.ireturn, 57, []) := (congrArg (fun t => fxl t 56) e_62).trans rfl
theorem f_RL_place_0 : fx n_RL_place 0 = some (.iload_n 1, 1, []) := (congrArg (fun t => fxl t 0) e_63).trans rfl
theorem f_RL_place_1 : fx n_RL_place 1 = some (.iconst 3, 2, []) := (congrArg (fun t => fxl t 1) e_63).trans rfl
theorem f_RL_place_2 : fx n_RL_place 2 = some (.invokestatic 157, 5, [32, 2]) := (congrArg (fun t => fxl t 2) e_63).trans rfl
theorem f_RL_place_5 : fx n_RL_place 5 = some (.ifCond .ne 6, 8, [11]) := (congrArg (fun t => fxl t 5) e_63).trans rfl
theorem f_RL_place_8 : fx n_RL_place 8 = some (.bipush (-102), 10, []) := (congrArg (fun t => fxl t 8) e_63).trans rfl
theorem f_RL_place_10 : fx n_RL_place 10 = some (.ireturn, 11, []) := (congrArg (fun t => fxl t 10) e_63).trans rfl
theorem f_RL_place_11 : fx n_RL_place 11 = some (.aload_n 0, 12, []) := (congrArg (fun t => fxl t 11) e_63).trans rfl
theorem f_RL_place_12 : fx n_RL_place 12 = some (.invokevirtual 144, 15, [76, 0]) := (congrArg (fun t => fxl t 12) e_63).trans rfl
theorem f_RL_place_15 : fx n_RL_place 15 = some (.ifCond .ne 6, 18, [21]) := (congrArg (fun t => fxl t 15) e_63).trans rfl
theorem f_RL_place_18 : fx n_RL_place 18 = some (.bipush (-103), 20, []) := (congrArg (fun t => fxl t 18) e_63).trans rfl
theorem f_RL_place_20 : fx n_RL_place 20 = some (.ireturn, 21, []) := (congrArg (fun t => fxl t 20) e_63).trans rfl
theorem f_RL_place_21 : fx n_RL_place 21 = some (.aload_n 0, 22, []) := (congrArg (fun t => fxl t 21) e_63).trans rfl
theorem f_RL_place_22 : fx n_RL_place 22 = some (.getfield 42, 25, [6, 6]) := (congrArg (fun t => fxl t 22) e_63).trans rfl
theorem f_RL_place_25 : fx n_RL_place 25 = some (.aload_n 0, 26, []) := (congrArg (fun t => fxl t 25) e_63).trans rfl
theorem f_RL_place_26 : fx n_RL_place 26 = some (.getfield 19, 29, [6, 1]) := (congrArg (fun t => fxl t 26) e_63).trans rfl
theorem f_RL_place_29 : fx n_RL_place 29 = some (.invokevirtual 168, 32, [34, 1]) := (congrArg (fun t => fxl t 29) e_63).trans rfl
theorem f_RL_place_32 : fx n_RL_place 32 = some (.aload_n 0, 33, []) := (congrArg (fun t => fxl t 32) e_63).trans rfl
theorem f_RL_place_33 : fx n_RL_place 33 = some (.getfield 42, 36, [6, 6]) := (congrArg (fun t => fxl t 33) e_63).trans rfl
theorem f_RL_place_36 : fx n_RL_place 36 = some (.iload_n 1, 37, []) := (congrArg (fun t => fxl t 36) e_63).trans rfl
theorem f_RL_place_37 : fx n_RL_place 37 = some (.invokevirtual 165, 40, [40, 1]) := (congrArg (fun t => fxl t 37) e_63).trans rfl
theorem f_RL_place_40 : fx n_RL_place 40 = some (.ireturn, 41, []) := (congrArg (fun t => fxl t 40) e_63).trans rfl
theorem f_RL_weirs_0 : fx n_RL_weirs 0 = some (.iload_n 1, 1, []) := (congrArg (fun t => fxl t 0) e_64).trans rfl
theorem f_RL_weirs_1 : fx n_RL_weirs 1 = some (.ifCond .lt 8, 4, [9]) := (congrArg (fun t => fxl t 1) e_64).trans rfl
theorem f_RL_weirs_4 : fx n_RL_weirs 4 = some (.iload_n 1, 5, []) := (congrArg (fun t => fxl t 4) e_64).trans rfl
theorem f_RL_weirs_5 : fx n_RL_weirs 5 = some (.iconst 1, 6, []) := (congrArg (fun t => fxl t 5) e_64).trans rfl
theorem f_RL_weirs_6 : fx n_RL_weirs 6 = some (.if_icmp .le 6, 9, [12]) := (congrArg (fun t => fxl t 6) e_64).trans rfl
theorem f_RL_weirs_9 : fx n_RL_weirs 9 = some (.bipush (-102), 11, []) := (congrArg (fun t => fxl t 9) e_64).trans rfl
theorem f_RL_weirs_11 : fx n_RL_weirs 11 = some (.ireturn, 12, []) := (congrArg (fun t => fxl t 11) e_64).trans rfl
theorem f_RL_weirs_12 : fx n_RL_weirs 12 = some (.aload_n 0, 13, []) := (congrArg (fun t => fxl t 12) e_64).trans rfl
theorem f_RL_weirs_13 : fx n_RL_weirs 13 = some (.invokevirtual 144, 16, [76, 0]) := (congrArg (fun t => fxl t 13) e_64).trans rfl
theorem f_RL_weirs_16 : fx n_RL_weirs 16 = some (.ifCond .ne 6, 19, [22]) := (congrArg (fun t => fxl t 16) e_64).trans rfl
theorem f_RL_weirs_19 : fx n_RL_weirs 19 = some (.bipush (-103), 21, []) := (congrArg (fun t => fxl t 19) e_64).trans rfl
theorem f_RL_weirs_21 : fx n_RL_weirs 21 = some (.ireturn, 22, []) := (congrArg (fun t => fxl t 21) e_64).trans rfl
theorem f_RL_weirs_22 : fx n_RL_weirs 22 = some (.aload_n 0, 23, []) := (congrArg (fun t => fxl t 22) e_64).trans rfl
theorem f_RL_weirs_23 : fx n_RL_weirs 23 = some (.getfield 56, 26, [6, 8]) := (congrArg (fun t => fxl t 23) e_64).trans rfl
theorem f_RL_weirs_26 : fx n_RL_weirs 26 = some (.aload_n 0, 27, []) := (congrArg (fun t => fxl t 26) e_64).trans rfl
theorem f_RL_weirs_27 : fx n_RL_weirs 27 = some (.getfield 19, 30, [6, 1]) := (congrArg (fun t => fxl t 27) e_64).trans rfl
theorem f_RL_weirs_30 : fx n_RL_weirs 30 = some (.aload_n 0, 31, []) := (congrArg (fun t => fxl t 30) e_64).trans rfl
theorem f_RL_weirs_31 : fx n_RL_weirs 31 = some (.getfield 26, 34, [6, 3]) := (congrArg (fun t => fxl t 31) e_64).trans rfl
theorem f_RL_weirs_34 : fx n_RL_weirs 34 = some (.invokevirtual 172, 37, [47, 2]) := (congrArg (fun t => fxl t 34) e_64).trans rfl
theorem f_RL_weirs_37 : fx n_RL_weirs 37 = some (.aload_n 0, 38, []) := (congrArg (fun t => fxl t 37) e_64).trans rfl
theorem f_RL_weirs_38 : fx n_RL_weirs 38 = some (.getfield 56, 41, [6, 8]) := (congrArg (fun t => fxl t 38) e_64).trans rfl
theorem f_RL_weirs_41 : fx n_RL_weirs 41 = some (.iload_n 1, 42, []) := (congrArg (fun t => fxl t 41) e_64).trans rfl
theorem f_RL_weirs_42 : fx n_RL_weirs 42 = some (.invokevirtual 176, 45, [49, 1]) := (congrArg (fun t => fxl t 42) e_64).trans rfl
theorem f_RL_weirs_45 : fx n_RL_weirs 45 = some (.ireturn, 46, []) := (congrArg (fun t => fxl t 45) e_64).trans rfl
theorem f_RL_odds_0 : fx n_RL_odds 0 = some (.aload_n 0, 1, []) := (congrArg (fun t => fxl t 0) e_65).trans rfl
theorem f_RL_odds_1 : fx n_RL_odds 1 = some (.getfield 19, 4, [6, 1]) := (congrArg (fun t => fxl t 1) e_65).trans rfl
theorem f_RL_odds_4 : fx n_RL_odds 4 = some (.iload_n 1, 5, []) := (congrArg (fun t => fxl t 4) e_65).trans rfl
theorem f_RL_odds_5 : fx n_RL_odds 5 = some (.invokevirtual 87, 8, [14, 1]) := (congrArg (fun t => fxl t 5) e_65).trans rfl
theorem f_RL_odds_8 : fx n_RL_odds 8 = some (.ifCond .ne 6, 11, [14]) := (congrArg (fun t => fxl t 8) e_65).trans rfl
theorem f_RL_odds_11 : fx n_RL_odds 11 = some (.bipush (-101), 13, []) := (congrArg (fun t => fxl t 11) e_65).trans rfl
theorem f_RL_odds_13 : fx n_RL_odds 13 = some (.ireturn, 14, []) := (congrArg (fun t => fxl t 13) e_65).trans rfl
theorem f_RL_odds_14 : fx n_RL_odds 14 = some (.iload_n 2, 15, []) := (congrArg (fun t => fxl t 14) e_65).trans rfl
theorem f_RL_odds_15 : fx n_RL_odds 15 = some (.ifCond .lt 8, 18, [23]) := (congrArg (fun t => fxl t 15) e_65).trans rfl
theorem f_RL_odds_18 : fx n_RL_odds 18 = some (.iload_n 2, 19, []) := (congrArg (fun t => fxl t 18) e_65).trans rfl
theorem f_RL_odds_19 : fx n_RL_odds 19 = some (.iconst 1, 20, []) := (congrArg (fun t => fxl t 19) e_65).trans rfl
theorem f_RL_odds_20 : fx n_RL_odds 20 = some (.if_icmp .le 6, 23, [26]) := (congrArg (fun t => fxl t 20) e_65).trans rfl
theorem f_RL_odds_23 : fx n_RL_odds 23 = some (.bipush (-102), 25, []) := (congrArg (fun t => fxl t 23) e_65).trans rfl
theorem f_RL_odds_25 : fx n_RL_odds 25 = some (.ireturn, 26, []) := (congrArg (fun t => fxl t 25) e_65).trans rfl
theorem f_RL_odds_26 : fx n_RL_odds 26 = some (.aload_n 0, 27, []) := (congrArg (fun t => fxl t 26) e_65).trans rfl
theorem f_RL_odds_27 : fx n_RL_odds 27 = some (.getfield 49, 30, [6, 7]) := (congrArg (fun t => fxl t 27) e_65).trans rfl
theorem f_RL_odds_30 : fx n_RL_odds 30 = some (.aload_n 0, 31, []) := (congrArg (fun t => fxl t 30) e_65).trans rfl
theorem f_RL_odds_31 : fx n_RL_odds 31 = some (.getfield 19, 34, [6, 1]) := (congrArg (fun t => fxl t 31) e_65).trans rfl
theorem f_RL_odds_34 : fx n_RL_odds 34 = some (.invokevirtual 177, 37, [0, 1]) := (congrArg (fun t => fxl t 34) e_65).trans rfl
theorem f_RL_odds_37 : fx n_RL_odds 37 = some (.aload_n 0, 38, []) := (congrArg (fun t => fxl t 37) e_65).trans rfl
theorem f_RL_odds_38 : fx n_RL_odds 38 = some (.getfield 49, 41, [6, 7]) := (congrArg (fun t => fxl t 38) e_65).trans rfl
theorem f_RL_odds_41 : fx n_RL_odds 41 = some (.aload_n 0, 42, []) := (congrArg (fun t => fxl t 41) e_65).trans rfl
theorem f_RL_odds_42 : fx n_RL_odds 42 = some (.getfield 19, 45, [6, 1]) := (congrArg (fun t => fxl t 42) e_65).trans rfl
theorem f_RL_odds_45 : fx n_RL_odds 45 = some (.iload_n 1, 46, []) := (congrArg (fun t => fxl t 45) e_65).trans rfl
theorem f_RL_odds_46 : fx n_RL_odds 46 = some (.invokevirtual 180, 49, [4, 2]) := (congrArg (fun t => fxl t 46) e_65).trans rfl
theorem f_RL_odds_49 : fx n_RL_odds 49 = some (.iload_n 2, 50, []) := (congrArg (fun t => fxl t 49) e_65).trans rfl
theorem f_RL_odds_50 : fx n_RL_odds 50 = some (.ifCond .ne 13, 53, [63]) := (congrArg (fun t => fxl t 50) e_65).trans rfl
theorem f_RL_odds_53 : fx n_RL_odds 53 = some (.aload_n 0, 54, []) := (congrArg (fun t => fxl t 53) e_65).trans rfl
theorem f_RL_odds_54 : fx n_RL_odds 54 = some (.getfield 49, 57, [6, 7]) := (congrArg (fun t => fxl t 54) e_65).trans rfl
theorem f_RL_odds_57 : fx n_RL_odds 57 = some (.getfield 184, 60, [0, 2]) := (congrArg (fun t => fxl t 57) e_65).trans rfl
theorem f_RL_odds_60 : fx n_RL_odds 60 = some (.goto 10, 63, [70]) := (congrArg (fun t => fxl t 60) e_65).trans rfl
theorem f_RL_odds_63 : fx n_RL_odds 63 = some (.aload_n 0, 64, []) := (congrArg (fun t => fxl t 63) e_65).trans rfl
theorem f_RL_odds_64 : fx n_RL_odds 64 = some (.getfield 49, 67, [6, 7]) := (congrArg (fun t => fxl t 64) e_65).trans rfl
theorem f_RL_odds_67 : fx n_RL_odds 67 = some (.getfield 187, 70, [0, 3]) := (congrArg (fun t => fxl t 67) e_65).trans rfl
theorem f_RL_odds_70 : fx n_RL_odds 70 = some (.ireturn, 71, []) := (congrArg (fun t => fxl t 70) e_65).trans rfl
theorem f_RL_see_0 : fx n_RL_see 0 = some (.aload_n 0, 1, []) := (congrArg (fun t => fxl t 0) e_66).trans rfl
theorem f_RL_see_1 : fx n_RL_see 1 = some (.getfield 19, 4, [6, 1]) := (congrArg (fun t => fxl t 1) e_66).trans rfl
theorem f_RL_see_4 : fx n_RL_see 4 = some (.iload_n 1, 5, []) := (congrArg (fun t => fxl t 4) e_66).trans rfl
theorem f_RL_see_5 : fx n_RL_see 5 = some (.invokevirtual 87, 8, [14, 1]) := (congrArg (fun t => fxl t 5) e_66).trans rfl
theorem f_RL_see_8 : fx n_RL_see 8 = some (.ifCond .ne 6, 11, [14]) := (congrArg (fun t => fxl t 8) e_66).trans rfl
theorem f_RL_see_11 : fx n_RL_see 11 = some (.bipush (-101), 13, []) := (congrArg (fun t => fxl t 11) e_66).trans rfl
theorem f_RL_see_13 : fx n_RL_see 13 = some (.ireturn, 14, []) := (congrArg (fun t => fxl t 13) e_66).trans rfl
theorem f_RL_see_14 : fx n_RL_see 14 = some (.iload_n 2, 15, []) := (congrArg (fun t => fxl t 14) e_66).trans rfl
theorem f_RL_see_15 : fx n_RL_see 15 = some (.ifCond .lt 9, 18, [24]) := (congrArg (fun t => fxl t 15) e_66).trans rfl
theorem f_RL_see_18 : fx n_RL_see 18 = some (.iload_n 2, 19, []) := (congrArg (fun t => fxl t 18) e_66).trans rfl
theorem f_RL_see_19 : fx n_RL_see 19 = some (.bipush 20, 21, []) := (congrArg (fun t => fxl t 19) e_66).trans rfl
theorem f_RL_see_21 : fx n_RL_see 21 = some (.if_icmp .le 6, 24, [27]) := (congrArg (fun t => fxl t 21) e_66).trans rfl
theorem f_RL_see_24 : fx n_RL_see 24 = some (.bipush (-102), 26, []) := (congrArg (fun t => fxl t 24) e_66).trans rfl
theorem f_RL_see_26 : fx n_RL_see 26 = some (.ireturn, 27, []) := (congrArg (fun t => fxl t 26) e_66).trans rfl
theorem f_RL_see_27 : fx n_RL_see 27 = some (.aload_n 0, 28, []) := (congrArg (fun t => fxl t 27) e_66).trans rfl
theorem f_RL_see_28 : fx n_RL_see 28 = some (.getfield 32, 31, [6, 4]) := (congrArg (fun t => fxl t 28) e_66).trans rfl
theorem f_RL_see_31 : fx n_RL_see 31 = some (.getfield 86, 34, [4, 0]) := (congrArg (fun t => fxl t 31) e_66).trans rfl
theorem f_RL_see_34 : fx n_RL_see 34 = some (.bipush 6, 36, []) := (congrArg (fun t => fxl t 34) e_66).trans rfl
theorem f_RL_see_36 : fx n_RL_see 36 = some (.if_icmp .lt 6, 39, [42]) := (congrArg (fun t => fxl t 36) e_66).trans rfl
theorem f_RL_see_39 : fx n_RL_see 39 = some (.bipush (-104), 41, []) := (congrArg (fun t => fxl t 39) e_66).trans rfl
theorem f_RL_see_41 : fx n_RL_see 41 = some (.ireturn, 42, []) := (congrArg (fun t => fxl t 41) e_66).trans rfl
theorem f_RL_see_42 : fx n_RL_see 42 = some (.aload_n 0, 43, []) := (congrArg (fun t => fxl t 42) e_66).trans rfl
theorem f_RL_see_43 : fx n_RL_see 43 = some (.getfield 32, 46, [6, 4]) := (congrArg (fun t => fxl t 43) e_66).trans rfl
theorem f_RL_see_46 : fx n_RL_see 46 = some (.iload_n 1, 47, []) := (congrArg (fun t => fxl t 46) e_66).trans rfl
theorem f_RL_see_47 : fx n_RL_see 47 = some (.iload_n 2, 48, []) := (congrArg (fun t => fxl t 47) e_66).trans rfl
theorem f_RL_see_48 : fx n_RL_see 48 = some (.iload_n 3, 49, []) := (congrArg (fun t => fxl t 48) e_66).trans rfl
theorem f_RL_see_49 : fx n_RL_see 49 = some (.invokevirtual 190, 52, [41, 3]) := (congrArg (fun t => fxl t 49) e_66).trans rfl
theorem f_RL_see_52 : fx n_RL_see 52 = some (.aload_n 0, 53, []) := (congrArg (fun t => fxl t 52) e_66).trans rfl
theorem f_RL_see_53 : fx n_RL_see 53 = some (.getfield 32, 56, [6, 4]) := (congrArg (fun t => fxl t 53) e_66).trans rfl
theorem f_RL_see_56 : fx n_RL_see 56 = some (.getfield 86, 59, [4, 0]) := (congrArg (fun t => fxl t 56) e_66).trans rfl
theorem f_RL_see_59 : fx n_RL_see 59 = some (.ireturn, 60, []) := (congrArg (fun t => fxl t 59) e_66).trans rfl
theorem f_RL_forget_0 : fx n_RL_forget 0 = some (.aload_n 0, 1, []) := (congrArg (fun t => fxl t 0) e_67).trans rfl
theorem f_RL_forget_1 : fx n_RL_forget 1 = some (.getfield 32, 4, [6, 4]) := (congrArg (fun t => fxl t 1) e_67).trans rfl
theorem f_RL_forget_4 : fx n_RL_forget 4 = some (.getfield 86, 7, [4, 0]) := (congrArg (fun t => fxl t 4) e_67).trans rfl
theorem f_RL_forget_7 : fx n_RL_forget 7 = some (.istore_n 1, 8, []) := (congrArg (fun t => fxl t 7) e_67).trans rfl
theorem f_RL_forget_8 : fx n_RL_forget 8 = some (.aload_n 0, 9, []) := (congrArg (fun t => fxl t 8) e_67).trans rfl
theorem f_RL_forget_9 : fx n_RL_forget 9 = some (.getfield 32, 12, [6, 4]) := (congrArg (fun t => fxl t 9) e_67).trans rfl
theorem f_RL_forget_12 : fx n_RL_forget 12 = some (.iconst 0, 13, []) := (congrArg (fun t => fxl t 12) e_67).trans rfl
theorem f_RL_forget_13 : fx n_RL_forget 13 = some (.putfield 86, 16, [4, 0]) := (congrArg (fun t => fxl t 13) e_67).trans rfl
theorem f_RL_forget_16 : fx n_RL_forget 16 = some (.iload_n 1, 17, []) := (congrArg (fun t => fxl t 16) e_67).trans rfl
theorem f_RL_forget_17 : fx n_RL_forget 17 = some (.ireturn, 18, []) := (congrArg (fun t => fxl t 17) e_67).trans rfl
theorem f_RL_years_0 : fx n_RL_years 0 = some (.iload_n 1, 1, []) := (congrArg (fun t => fxl t 0) e_68).trans rfl
theorem f_RL_years_1 : fx n_RL_years 1 = some (.iconst 1, 2, []) := (congrArg (fun t => fxl t 1) e_68).trans rfl
theorem f_RL_years_2 : fx n_RL_years 2 = some (.if_icmp .lt 22, 5, [24]) := (congrArg (fun t => fxl t 2) e_68).trans rfl
theorem f_RL_years_5 : fx n_RL_years 5 = some (.iload_n 1, 6, []) := (congrArg (fun t => fxl t 5) e_68).trans rfl
theorem f_RL_years_6 : fx n_RL_years 6 = some (.bipush 60, 8, []) := (congrArg (fun t => fxl t 6) e_68).trans rfl
theorem f_RL_years_8 : fx n_RL_years 8 = some (.if_icmp .gt 16, 11, [24]) := (congrArg (fun t => fxl t 8) e_68).trans rfl
theorem f_RL_years_11 : fx n_RL_years 11 = some (.iload_n 2, 12, []) := (congrArg (fun t => fxl t 11) e_68).trans rfl
theorem f_RL_years_12 : fx n_RL_years 12 = some (.ifCond .lt 12, 15, [24]) := (congrArg (fun t => fxl t 12) e_68).trans rfl
theorem f_RL_years_15 : fx n_RL_years 15 = some (.iload_n 3, 16, []) := (congrArg (fun t => fxl t 15) e_68).trans rfl
theorem f_RL_years_16 : fx n_RL_years 16 = some (.ifCond .lt 8, 19, [24]) := (congrArg (fun t => fxl t 16) e_68).trans rfl
theorem f_RL_years_19 : fx n_RL_years 19 = some (.iload_n 3, 20, []) := (congrArg (fun t => fxl t 19) e_68).trans rfl
theorem f_RL_years_20 : fx n_RL_years 20 = some (.iconst 2, 21, []) := (congrArg (fun t => fxl t 20) e_68).trans rfl
theorem f_RL_years_21 : fx n_RL_years 21 = some (.if_icmp .le 6, 24, [27]) := (congrArg (fun t => fxl t 21) e_68).trans rfl
theorem f_RL_years_24 : fx n_RL_years 24 = some (.bipush (-102), 26, []) := (congrArg (fun t => fxl t 24) e_68).trans rfl
theorem f_RL_years_26 : fx n_RL_years 26 = some (.ireturn, 27, []) := (congrArg (fun t => fxl t 26) e_68).trans rfl
theorem f_RL_years_27 : fx n_RL_years 27 = some (.aload_n 0, 28, []) := (congrArg (fun t => fxl t 27) e_68).trans rfl
theorem f_RL_years_28 : fx n_RL_years 28 = some (.invokevirtual 144, 31, [76, 0]) := (congrArg (fun t => fxl t 28) e_68).trans rfl
theorem f_RL_years_31 : fx n_RL_years 31 = some (.ifCond .ne 6, 34, [37]) := (congrArg (fun t => fxl t 31) e_68).trans rfl
theorem f_RL_years_34 : fx n_RL_years 34 = some (.bipush (-103), 36, []) := (congrArg (fun t => fxl t 34) e_68).trans rfl
theorem f_RL_years_36 : fx n_RL_years 36 = some (.ireturn, 37, []) := (congrArg (fun t => fxl t 36) e_68).trans rfl
theorem f_RL_years_37 : fx n_RL_years 37 = some (.aload_n 0, 38, []) := (congrArg (fun t => fxl t 37) e_68).trans rfl
theorem f_RL_years_38 : fx n_RL_years 38 = some (.getfield 26, 41, [6, 3]) := (congrArg (fun t => fxl t 38) e_68).trans rfl
theorem f_RL_years_41 : fx n_RL_years 41 = some (.aload_n 0, 42, []) := (congrArg (fun t => fxl t 41) e_68).trans rfl
theorem f_RL_years_42 : fx n_RL_years 42 = some (.getfield 19, 45, [6, 1]) := (congrArg (fun t => fxl t 42) e_68).trans rfl
theorem f_RL_years_45 : fx n_RL_years 45 = some (.invokevirtual 194, 48, [17, 1]) := (congrArg (fun t => fxl t 45) e_68).trans rfl
theorem f_RL_years_48 : fx n_RL_years 48 = some (.iload_n 2, 49, []) := (congrArg (fun t => fxl t 48) e_68).trans rfl
theorem f_RL_years_49 : fx n_RL_years 49 = some (.i2l, 50, []) := (congrArg (fun t => fxl t 49) e_68).trans rfl
theorem f_RL_years_50 : fx n_RL_years 50 = some (.lstore 4, 52, []) := (congrArg (fun t => fxl t 50) e_68).trans rfl
theorem f_RL_years_52 : fx n_RL_years 52 = some (.iconst 0, 53, []) := (congrArg (fun t => fxl t 52) e_68).trans rfl
theorem f_RL_years_53 : fx n_RL_years 53 = some (.istore 6, 55, []) := (congrArg (fun t => fxl t 53) e_68).trans rfl
theorem f_RL_years_55 : fx n_RL_years 55 = some (.iconst 0, 56, []) := (congrArg (fun t => fxl t 55) e_68).trans rfl
theorem f_RL_years_56 : fx n_RL_years 56 = some (.istore 7, 58, []) := (congrArg (fun t => fxl t 56) e_68).trans rfl
theorem f_RL_years_58 : fx n_RL_years 58 = some (.iload 7, 60, []) := (congrArg (fun t => fxl t 58) e_68).trans rfl
theorem f_RL_years_60 : fx n_RL_years 60 = some (.iload_n 1, 61, []) := (congrArg (fun t => fxl t 60) e_68).trans rfl
theorem f_RL_years_61 : fx n_RL_years 61 = some (.if_icmp .ge 82, 64, [143]) := (congrArg (fun t => fxl t 61) e_68).trans rfl
theorem f_RL_years_64 : fx n_RL_years 64 = some (.lload 4, 66, []) := (congrArg (fun t => fxl t 64) e_68).trans rfl
theorem f_RL_years_66 : fx n_RL_years 66 = some (.invokestatic 197, 69, [83, 1]) := (congrArg (fun t => fxl t 66) e_68).trans rfl
theorem f_RL_years_69 : fx n_RL_years 69 = some (.lstore 4, 71, []) := (congrArg (fun t => fxl t 69) e_68).trans rfl
theorem f_RL_years_71 : fx n_RL_years 71 = some (.aload_n 0, 72, []) := (congrArg (fun t => fxl t 71) e_68).trans rfl
theorem f_RL_years_72 : fx n_RL_years 72 = some (.getfield 26, 75, [6, 3]) := (congrArg (fun t => fxl t 72) e_68).trans rfl
theorem f_RL_years_75 : fx n_RL_years 75 = some (.getfield 141, 78, [2, 9]) := (congrArg (fun t => fxl t 75) e_68).trans rfl
theorem f_RL_years_78 : fx n_RL_years 78 = some (.iconst 0, 79, []) := (congrArg (fun t => fxl t 78) e_68).trans rfl
theorem f_RL_years_79 : fx n_RL_years 79 = some (.lload 4, 81, []) := (congrArg (fun t => fxl t 79) e_68).trans rfl
theorem f_RL_years_81 : fx n_RL_years 81 = some (.aload_n 0, 82, []) := (congrArg (fun t => fxl t 81) e_68).trans rfl
theorem f_RL_years_82 : fx n_RL_years 82 = some (.getfield 26, 85, [6, 3]) := (congrArg (fun t => fxl t 82) e_68).trans rfl
theorem f_RL_years_85 : fx n_RL_years 85 = some (.getfield 201, 88, [2, 0]) := (congrArg (fun t => fxl t 85) e_68).trans rfl
theorem f_RL_years_88 : fx n_RL_years 88 = some (.invokestatic 204, 91, [84, 2]) := (congrArg (fun t => fxl t 88) e_68).trans rfl
theorem f_RL_years_91 : fx n_RL_years 91 = some (.iastore, 92, []) := (congrArg (fun t => fxl t 91) e_68).trans rfl
theorem f_RL_years_92 : fx n_RL_years 92 = some (.lload 4, 94, []) := (congrArg (fun t => fxl t 92) e_68).trans rfl
theorem f_RL_years_94 : fx n_RL_years 94 = some (.invokestatic 197, 97, [83, 1]) := (congrArg (fun t => fxl t 94) e_68).trans rfl
theorem f_RL_years_97 : fx n_RL_years 97 = some (.lstore 4, 99, []) := (congrArg (fun t => fxl t 97) e_68).trans rfl
theorem f_RL_years_99 : fx n_RL_years 99 = some (.aload_n 0, 100, []) := (congrArg (fun t => fxl t 99) e_68).trans rfl
theorem f_RL_years_100 : fx n_RL_years 100 = some (.getfield 26, 103, [6, 3]) := (congrArg (fun t => fxl t 100) e_68).trans rfl
theorem f_RL_years_103 : fx n_RL_years 103 = some (.lload 4, 105, []) := (congrArg (fun t => fxl t 103) e_68).trans rfl
theorem f_RL_years_105 : fx n_RL_years 105 = some (.aload_n 0, 106, []) := (congrArg (fun t => fxl t 105) e_68).trans rfl
theorem f_RL_years_106 : fx n_RL_years 106 = some (.getfield 26, 109, [6, 3]) := (congrArg (fun t => fxl t 106) e_68).trans rfl
theorem f_RL_years_109 : fx n_RL_years 109 = some (.getfield 201, 112, [2, 0]) := (congrArg (fun t => fxl t 109) e_68).trans rfl
theorem f_RL_years_112 : fx n_RL_years 112 = some (.invokestatic 204, 115, [84, 2]) := (congrArg (fun t => fxl t 112) e_68).trans rfl
theorem f_RL_years_115 : fx n_RL_years 115 = some (.invokevirtual 208, 118, [26, 1]) := (congrArg (fun t => fxl t 115) e_68).trans rfl
theorem f_RL_years_118 : fx n_RL_years 118 = some (.aload_n 0, 119, []) := (congrArg (fun t => fxl t 118) e_68).trans rfl
theorem f_RL_years_119 : fx n_RL_years 119 = some (.getfield 26, 122, [6, 3]) := (congrArg (fun t => fxl t 119) e_68).trans rfl
theorem f_RL_years_122 : fx n_RL_years 122 = some (.invokevirtual 151, 125, [27, 0]) := (congrArg (fun t => fxl t 122) e_68).trans rfl
theorem f_RL_years_125 : fx n_RL_years 125 = some (.iload 6, 127, []) := (congrArg (fun t => fxl t 125) e_68).trans rfl
theorem f_RL_years_127 : fx n_RL_years 127 = some (.aload_n 0, 128, []) := (congrArg (fun t => fxl t 127) e_68).trans rfl
theorem f_RL_years_128 : fx n_RL_years 128 = some (.getfield 26, 131, [6, 3]) := (congrArg (fun t => fxl t 128) e_68).trans rfl
theorem f_RL_years_131 : fx n_RL_years 131 = some (.invokevirtual 212, 134, [28, 0]) := (congrArg (fun t => fxl t 131) e_68).trans rfl
theorem f_RL_years_134 : fx n_RL_years 134 = some (.iadd, 135, []) := (congrArg (fun t => fxl t 134) e_68).trans rfl
theorem f_RL_years_135 : fx n_RL_years 135 = some (.istore 6, 137, []) := (congrArg (fun t => fxl t 135) e_68).trans rfl
theorem f_RL_years_137 : fx n_RL_years 137 = some (.iinc 7 1, 140, []) := (congrArg (fun t => fxl t 137) e_68).trans rfl
theorem f_RL_years_140 : fx n_RL_years 140 = some (.goto (-82), 143, [58]) := (congrArg (fun t => fxl t 140) e_68).trans rfl
theorem f_RL_years_143 : fx n_RL_years 143 = some (.iload_n 3, 144, []) := (congrArg (fun t => fxl t 143) e_68).trans rfl
theorem f_RL_years_144 : fx n_RL_years 144 = some (.ifCond .ne 6, 147, [150]) := (congrArg (fun t => fxl t 144) e_68).trans rfl
theorem f_RL_years_147 : fx n_RL_years 147 = some (.iload 6, 149, []) := (congrArg (fun t => fxl t 147) e_68).trans rfl
theorem f_RL_years_149 : fx n_RL_years 149 = some (.ireturn, 150, []) := (congrArg (fun t => fxl t 149) e_68).trans rfl
theorem f_RL_years_150 : fx n_RL_years 150 = some (.iload_n 3, 151, []) := (congrArg (fun t => fxl t 150) e_68).trans rfl
theorem f_RL_years_151 : fx n_RL_years 151 = some (.iconst 1, 152, []) := (congrArg (fun t => fxl t 151) e_68).trans rfl
theorem f_RL_years_152 : fx n_RL_years 152 = some (.if_icmp .ne 13, 155, [165]) := (congrArg (fun t => fxl t 152) e_68).trans rfl
theorem f_RL_years_155 : fx n_RL_years 155 = some (.aload_n 0, 156, []) := (congrArg (fun t => fxl t 155) e_68).trans rfl
theorem f_RL_years_156 : fx n_RL_years 156 = some (.getfield 26, 159, [6, 3]) := (congrArg (fun t => fxl t 156) e_68).trans rfl
theorem f_RL_years_159 : fx n_RL_years 159 = some (.invokevirtual 215, 162, [30, 0]) := (congrArg (fun t => fxl t 159) e_68).trans rfl
theorem f_RL_years_162 : fx n_RL_years 162 = some (.goto 6, 165, [168]) := (congrArg (fun t => fxl t 162) e_68).trans rfl
theorem f_RL_years_165 : fx n_RL_years 165 = some (.lload 4, 167, []) := (congrArg (fun t => fxl t 165) e_68).trans rfl
theorem f_RL_years_167 : fx n_RL_years 167 = some (.l2i, 168, []) := (congrArg (fun t => fxl t 167) e_68).trans rfl
theorem f_RL_years_168 : fx n_RL_years 168 = some (.ireturn, 169, []) := (congrArg (fun t => fxl t 168) e_68).trans rfl
theorem f_RL_image_0 : fx n_RL_image 0 = some (.aload_n 0, 1, []) := (congrArg (fun t => fxl t 0) e_69).trans rfl
theorem f_RL_image_1 : fx n_RL_image 1 = some (.invokevirtual 144, 4, [76, 0]) := (congrArg (fun t => fxl t 1) e_69).trans rfl
theorem f_RL_image_4 : fx n_RL_image 4 = some (.ifCond .ne 6, 7, [10]) := (congrArg (fun t => fxl t 4) e_69).trans rfl
theorem f_RL_image_7 : fx n_RL_image 7 = some (.bipush (-103), 9, []) := (congrArg (fun t => fxl t 7) e_69).trans rfl
theorem f_RL_image_9 : fx n_RL_image 9 = some (.ireturn, 10, []) := (congrArg (fun t => fxl t 9) e_69).trans rfl
theorem f_RL_image_10 : fx n_RL_image 10 = some (.aload_n 0, 11, []) := (congrArg (fun t => fxl t 10) e_69).trans rfl
theorem f_RL_image_11 : fx n_RL_image 11 = some (.getfield 23, 14, [6, 2]) := (congrArg (fun t => fxl t 11) e_69).trans rfl
theorem f_RL_image_14 : fx n_RL_image 14 = some (.aload_n 0, 15, []) := (congrArg (fun t => fxl t 14) e_69).trans rfl
theorem f_RL_image_15 : fx n_RL_image 15 = some (.getfield 19, 18, [6, 1]) := (congrArg (fun t => fxl t 15) e_69).trans rfl
theorem f_RL_image_18 : fx n_RL_image 18 = some (.invokevirtual 194, 21, [17, 1]) := (congrArg (fun t => fxl t 18) e_69).trans rfl
theorem f_RL_image_21 : fx n_RL_image 21 = some (.aload_n 0, 22, []) := (congrArg (fun t => fxl t 21) e_69).trans rfl
theorem f_RL_image_22 : fx n_RL_image 22 = some (.getfield 36, 25, [6, 5]) := (congrArg (fun t => fxl t 22) e_69).trans rfl
theorem f_RL_image_25 : fx n_RL_image 25 = some (.aload_n 0, 26, []) := (congrArg (fun t => fxl t 25) e_69).trans rfl
theorem f_RL_image_26 : fx n_RL_image 26 = some (.getfield 32, 29, [6, 4]) := (congrArg (fun t => fxl t 26) e_69).trans rfl
theorem f_RL_image_29 : fx n_RL_image 29 = some (.invokevirtual 218, 32, [42, 1]) := (congrArg (fun t => fxl t 29) e_69).trans rfl
theorem f_RL_image_32 : fx n_RL_image 32 = some (.aload_n 0, 33, []) := (congrArg (fun t => fxl t 32) e_69).trans rfl
theorem f_RL_image_33 : fx n_RL_image 33 = some (.iconst 1, 34, []) := (congrArg (fun t => fxl t 33) e_69).trans rfl
theorem f_RL_image_34 : fx n_RL_image 34 = some (.putfield 60, 37, [6, 9]) := (congrArg (fun t => fxl t 34) e_69).trans rfl
theorem f_RL_image_37 : fx n_RL_image 37 = some (.aload_n 0, 38, []) := (congrArg (fun t => fxl t 37) e_69).trans rfl
theorem f_RL_image_38 : fx n_RL_image 38 = some (.getfield 19, 41, [6, 1]) := (congrArg (fun t => fxl t 38) e_69).trans rfl
theorem f_RL_image_41 : fx n_RL_image 41 = some (.getfield 148, 44, [2, 2]) := (congrArg (fun t => fxl t 41) e_69).trans rfl
theorem f_RL_image_44 : fx n_RL_image 44 = some (.ireturn, 45, []) := (congrArg (fun t => fxl t 44) e_69).trans rfl
theorem f_RL_restore_0 : fx n_RL_restore 0 = some (.aload_n 0, 1, []) := (congrArg (fun t => fxl t 0) e_70).trans rfl
theorem f_RL_restore_1 : fx n_RL_restore 1 = some (.getfield 60, 4, [6, 9]) := (congrArg (fun t => fxl t 1) e_70).trans rfl
theorem f_RL_restore_4 : fx n_RL_restore 4 = some (.ifCond .ne 6, 7, [10]) := (congrArg (fun t => fxl t 4) e_70).trans rfl
theorem f_RL_restore_7 : fx n_RL_restore 7 = some (.bipush (-103), 9, []) := (congrArg (fun t => fxl t 7) e_70).trans rfl
theorem f_RL_restore_9 : fx n_RL_restore 9 = some (.ireturn, 10, []) := (congrArg (fun t => fxl t 9) e_70).trans rfl
theorem f_RL_restore_10 : fx n_RL_restore 10 = some (.aload_n 0, 11, []) := (congrArg (fun t => fxl t 10) e_70).trans rfl
theorem f_RL_restore_11 : fx n_RL_restore 11 = some (.getfield 19, 14, [6, 1]) := (congrArg (fun t => fxl t 11) e_70).trans rfl
theorem f_RL_restore_14 : fx n_RL_restore 14 = some (.aload_n 0, 15, []) := (congrArg (fun t => fxl t 14) e_70).trans rfl
theorem f_RL_restore_15 : fx n_RL_restore 15 = some (.getfield 23, 18, [6, 2]) := (congrArg (fun t => fxl t 15) e_70).trans rfl
theorem f_RL_restore_18 : fx n_RL_restore 18 = some (.invokevirtual 194, 21, [17, 1]) := (congrArg (fun t => fxl t 18) e_70).trans rfl
theorem f_RL_restore_21 : fx n_RL_restore 21 = some (.aload_n 0, 22, []) := (congrArg (fun t => fxl t 21) e_70).trans rfl
theorem f_RL_restore_22 : fx n_RL_restore 22 = some (.getfield 32, 25, [6, 4]) := (congrArg (fun t => fxl t 22) e_70).trans rfl
theorem f_RL_restore_25 : fx n_RL_restore 25 = some (.aload_n 0, 26, []) := (congrArg (fun t => fxl t 25) e_70).trans rfl
theorem f_RL_restore_26 : fx n_RL_restore 26 = some (.getfield 36, 29, [6, 5]) := (congrArg (fun t => fxl t 26) e_70).trans rfl
theorem f_RL_restore_29 : fx n_RL_restore 29 = some (.invokevirtual 218, 32, [42, 1]) := (congrArg (fun t => fxl t 29) e_70).trans rfl
theorem f_RL_restore_32 : fx n_RL_restore 32 = some (.aload_n 0, 33, []) := (congrArg (fun t => fxl t 32) e_70).trans rfl
theorem f_RL_restore_33 : fx n_RL_restore 33 = some (.getfield 19, 36, [6, 1]) := (congrArg (fun t => fxl t 33) e_70).trans rfl
theorem f_RL_restore_36 : fx n_RL_restore 36 = some (.getfield 148, 39, [2, 2]) := (congrArg (fun t => fxl t 36) e_70).trans rfl
theorem f_RL_restore_39 : fx n_RL_restore 39 = some (.ireturn, 40, []) := (congrArg (fun t => fxl t 39) e_70).trans rfl
theorem f_RL_count_0 : fx n_RL_count 0 = some (.iload_n 1, 1, []) := (congrArg (fun t => fxl t 0) e_71).trans rfl
theorem f_RL_count_1 : fx n_RL_count 1 = some (.tableswitch 144 0 10 #[59, 67, 75, 83, 91, 99, 107, 115, 123, 131, 139], 60, [145, 60, 68, 76, 84, 92, 100, 108, 116, 124, 132, 140]) := (congrArg (fun t => fxl t 1) e_71).trans rfl
theorem f_RL_count_60 : fx n_RL_count 60 = some (.aload_n 0, 61, []) := (congrArg (fun t => fxl t 60) e_71).trans rfl
theorem f_RL_count_61 : fx n_RL_count 61 = some (.getfield 19, 64, [6, 1]) := (congrArg (fun t => fxl t 61) e_71).trans rfl
theorem f_RL_count_64 : fx n_RL_count 64 = some (.getfield 201, 67, [2, 0]) := (congrArg (fun t => fxl t 64) e_71).trans rfl
theorem f_RL_count_67 : fx n_RL_count 67 = some (.ireturn, 68, []) := (congrArg (fun t => fxl t 67) e_71).trans rfl
theorem f_RL_count_68 : fx n_RL_count 68 = some (.aload_n 0, 69, []) := (congrArg (fun t => fxl t 68) e_71).trans rfl
theorem f_RL_count_69 : fx n_RL_count 69 = some (.getfield 19, 72, [6, 1]) := (congrArg (fun t => fxl t 69) e_71).trans rfl
theorem f_RL_count_72 : fx n_RL_count 72 = some (.getfield 221, 75, [2, 1]) := (congrArg (fun t => fxl t 72) e_71).trans rfl
theorem f_RL_count_75 : fx n_RL_count 75 = some (.ireturn, 76, []) := (congrArg (fun t => fxl t 75) e_71).trans rfl
theorem f_RL_count_76 : fx n_RL_count 76 = some (.aload_n 0, 77, []) := (congrArg (fun t => fxl t 76) e_71).trans rfl
theorem f_RL_count_77 : fx n_RL_count 77 = some (.getfield 19, 80, [6, 1]) := (congrArg (fun t => fxl t 77) e_71).trans rfl
theorem f_RL_count_80 : fx n_RL_count 80 = some (.invokevirtual 224, 83, [29, 0]) := (congrArg (fun t => fxl t 80) e_71).trans rfl
theorem f_RL_count_83 : fx n_RL_count 83 = some (.ireturn, 84, []) := (congrArg (fun t => fxl t 83) e_71).trans rfl
theorem f_RL_count_84 : fx n_RL_count 84 = some (.aload_n 0, 85, []) := (congrArg (fun t => fxl t 84) e_71).trans rfl
theorem f_RL_count_85 : fx n_RL_count 85 = some (.getfield 19, 88, [6, 1]) := (congrArg (fun t => fxl t 85) e_71).trans rfl
theorem f_RL_count_88 : fx n_RL_count 88 = some (.invokevirtual 215, 91, [30, 0]) := (congrArg (fun t => fxl t 88) e_71).trans rfl
theorem f_RL_count_91 : fx n_RL_count 91 = some (.ireturn, 92, []) := (congrArg (fun t => fxl t 91) e_71).trans rfl
theorem f_RL_count_92 : fx n_RL_count 92 = some (.aload_n 0, 93, []) := (congrArg (fun t => fxl t 92) e_71).trans rfl
theorem f_RL_count_93 : fx n_RL_count 93 = some (.getfield 19, 96, [6, 1]) := (congrArg (fun t => fxl t 93) e_71).trans rfl
theorem f_RL_count_96 : fx n_RL_count 96 = some (.invokevirtual 212, 99, [28, 0]) := (congrArg (fun t => fxl t 96) e_71).trans rfl
theorem f_RL_count_99 : fx n_RL_count 99 = some (.ireturn, 100, []) := (congrArg (fun t => fxl t 99) e_71).trans rfl
theorem f_RL_count_100 : fx n_RL_count 100 = some (.aload_n 0, 101, []) := (congrArg (fun t => fxl t 100) e_71).trans rfl
theorem f_RL_count_101 : fx n_RL_count 101 = some (.getfield 19, 104, [6, 1]) := (congrArg (fun t => fxl t 101) e_71).trans rfl
theorem f_RL_count_104 : fx n_RL_count 104 = some (.invokevirtual 227, 107, [31, 0]) := (congrArg (fun t => fxl t 104) e_71).trans rfl
theorem f_RL_count_107 : fx n_RL_count 107 = some (.ireturn, 108, []) := (congrArg (fun t => fxl t 107) e_71).trans rfl
theorem f_RL_count_108 : fx n_RL_count 108 = some (.aload_n 0, 109, []) := (congrArg (fun t => fxl t 108) e_71).trans rfl
theorem f_RL_count_109 : fx n_RL_count 109 = some (.getfield 19, 112, [6, 1]) := (congrArg (fun t => fxl t 109) e_71).trans rfl
theorem f_RL_count_112 : fx n_RL_count 112 = some (.getfield 148, 115, [2, 2]) := (congrArg (fun t => fxl t 112) e_71).trans rfl
theorem f_RL_count_115 : fx n_RL_count 115 = some (.ireturn, 116, []) := (congrArg (fun t => fxl t 115) e_71).trans rfl
theorem f_RL_count_116 : fx n_RL_count 116 = some (.aload_n 0, 117, []) := (congrArg (fun t => fxl t 116) e_71).trans rfl
theorem f_RL_count_117 : fx n_RL_count 117 = some (.getfield 19, 120, [6, 1]) := (congrArg (fun t => fxl t 117) e_71).trans rfl
theorem f_RL_count_120 : fx n_RL_count 120 = some (.getfield 230, 123, [2, 3]) := (congrArg (fun t => fxl t 120) e_71).trans rfl
theorem f_RL_count_123 : fx n_RL_count 123 = some (.ireturn, 124, []) := (congrArg (fun t => fxl t 123) e_71).trans rfl
theorem f_RL_count_124 : fx n_RL_count 124 = some (.aload_n 0, 125, []) := (congrArg (fun t => fxl t 124) e_71).trans rfl
theorem f_RL_count_125 : fx n_RL_count 125 = some (.getfield 32, 128, [6, 4]) := (congrArg (fun t => fxl t 125) e_71).trans rfl
theorem f_RL_count_128 : fx n_RL_count 128 = some (.getfield 86, 131, [4, 0]) := (congrArg (fun t => fxl t 128) e_71).trans rfl
theorem f_RL_count_131 : fx n_RL_count 131 = some (.ireturn, 132, []) := (congrArg (fun t => fxl t 131) e_71).trans rfl
theorem f_RL_count_132 : fx n_RL_count 132 = some (.aload_n 0, 133, []) := (congrArg (fun t => fxl t 132) e_71).trans rfl
theorem f_RL_count_133 : fx n_RL_count 133 = some (.getfield 12, 136, [6, 0]) := (congrArg (fun t => fxl t 133) e_71).trans rfl
theorem f_RL_count_136 : fx n_RL_count 136 = some (.getfield 68, 139, [1, 1]) := (congrArg (fun t => fxl t 136) e_71).trans rfl
theorem f_RL_count_139 : fx n_RL_count 139 = some (.ireturn, 140, []) := (congrArg (fun t => fxl t 139) e_71).trans rfl
theorem f_RL_count_140 : fx n_RL_count 140 = some (.aload_n 0, 141, []) := (congrArg (fun t => fxl t 140) e_71).trans rfl
theorem f_RL_count_141 : fx n_RL_count 141 = some (.getfield 64, 144, [6, 10]) := (congrArg (fun t => fxl t 141) e_71).trans rfl
theorem f_RL_count_144 : fx n_RL_count 144 = some (.ireturn, 145, []) := (congrArg (fun t => fxl t 144) e_71).trans rfl
theorem f_RL_count_145 : fx n_RL_count 145 = some (.bipush (-102), 147, []) := (congrArg (fun t => fxl t 145) e_71).trans rfl
theorem f_RL_count_147 : fx n_RL_count 147 = some (.ireturn, 148, []) := (congrArg (fun t => fxl t 147) e_71).trans rfl
theorem f_RL_digest_0 : fx n_RL_digest 0 = some (.aload_n 0, 1, []) := (congrArg (fun t => fxl t 0) e_72).trans rfl
theorem f_RL_digest_1 : fx n_RL_digest 1 = some (.ldc2_w 233, 4, []) := (congrArg (fun t => fxl t 1) e_72).trans rfl
theorem f_RL_digest_4 : fx n_RL_digest 4 = some (.invokevirtual 235, 7, [73, 1]) := (congrArg (fun t => fxl t 4) e_72).trans rfl
theorem f_RL_digest_7 : fx n_RL_digest 7 = some (.lstore_n 1, 8, []) := (congrArg (fun t => fxl t 7) e_72).trans rfl
theorem f_RL_digest_8 : fx n_RL_digest 8 = some (.aload_n 0, 9, []) := (congrArg (fun t => fxl t 8) e_72).trans rfl
theorem f_RL_digest_9 : fx n_RL_digest 9 = some (.lload_n 1, 10, []) := (congrArg (fun t => fxl t 9) e_72).trans rfl
theorem f_RL_digest_10 : fx n_RL_digest 10 = some (.invokevirtual 238, 13, [74, 1]) := (congrArg (fun t => fxl t 10) e_72).trans rfl
theorem f_RL_digest_13 : fx n_RL_digest 13 = some (.lstore_n 1, 14, []) := (congrArg (fun t => fxl t 13) e_72).trans rfl
theorem f_RL_digest_14 : fx n_RL_digest 14 = some (.aload_n 0, 15, []) := (congrArg (fun t => fxl t 14) e_72).trans rfl
theorem f_RL_digest_15 : fx n_RL_digest 15 = some (.invokevirtual 144, 18, [76, 0]) := (congrArg (fun t => fxl t 15) e_72).trans rfl
theorem f_RL_digest_18 : fx n_RL_digest 18 = some (.ifCond .eq 9, 21, [27]) := (congrArg (fun t => fxl t 18) e_72).trans rfl
theorem f_RL_digest_21 : fx n_RL_digest 21 = some (.aload_n 0, 22, []) := (congrArg (fun t => fxl t 21) e_72).trans rfl
theorem f_RL_digest_22 : fx n_RL_digest 22 = some (.lload_n 1, 23, []) := (congrArg (fun t => fxl t 22) e_72).trans rfl
theorem f_RL_digest_23 : fx n_RL_digest 23 = some (.invokevirtual 241, 26, [75, 1]) := (congrArg (fun t => fxl t 23) e_72).trans rfl
theorem f_RL_digest_26 : fx n_RL_digest 26 = some (.lstore_n 1, 27, []) := (congrArg (fun t => fxl t 26) e_72).trans rfl
theorem f_RL_digest_27 : fx n_RL_digest 27 = some (.iconst 0, 28, []) := (congrArg (fun t => fxl t 27) e_72).trans rfl
theorem f_RL_digest_28 : fx n_RL_digest 28 = some (.istore_n 3, 29, []) := (congrArg (fun t => fxl t 28) e_72).trans rfl
theorem f_RL_digest_29 : fx n_RL_digest 29 = some (.iload_n 3, 30, []) := (congrArg (fun t => fxl t 29) e_72).trans rfl
theorem f_RL_digest_30 : fx n_RL_digest 30 = some (.aload_n 0, 31, []) := (congrArg (fun t => fxl t 30) e_72).trans rfl
theorem f_RL_digest_31 : fx n_RL_digest 31 = some (.getfield 12, 34, [6, 0]) := (congrArg (fun t => fxl t 31) e_72).trans rfl
theorem f_RL_digest_34 : fx n_RL_digest 34 = some (.getfield 68, 37, [1, 1]) := (congrArg (fun t => fxl t 34) e_72).trans rfl
theorem f_RL_digest_37 : fx n_RL_digest 37 = some (.if_icmp .ge 24, 40, [61]) := (congrArg (fun t => fxl t 37) e_72).trans rfl
theorem f_RL_digest_40 : fx n_RL_digest 40 = some (.lload_n 1, 41, []) := (congrArg (fun t => fxl t 40) e_72).trans rfl
theorem f_RL_digest_41 : fx n_RL_digest 41 = some (.aload_n 0, 42, []) := (congrArg (fun t => fxl t 41) e_72).trans rfl
theorem f_RL_digest_42 : fx n_RL_digest 42 = some (.getfield 12, 45, [6, 0]) := (congrArg (fun t => fxl t 42) e_72).trans rfl
theorem f_RL_digest_45 : fx n_RL_digest 45 = some (.getfield 71, 48, [1, 0]) := (congrArg (fun t => fxl t 45) e_72).trans rfl
theorem f_RL_digest_48 : fx n_RL_digest 48 = some (.iload_n 3, 49, []) := (congrArg (fun t => fxl t 48) e_72).trans rfl
theorem f_RL_digest_49 : fx n_RL_digest 49 = some (.iaload, 50, []) := (congrArg (fun t => fxl t 49) e_72).trans rfl
theorem f_RL_digest_50 : fx n_RL_digest 50 = some (.i2l, 51, []) := (congrArg (fun t => fxl t 50) e_72).trans rfl
theorem f_RL_digest_51 : fx n_RL_digest 51 = some (.invokestatic 244, 54, [77, 2]) := (congrArg (fun t => fxl t 51) e_72).trans rfl
theorem f_RL_digest_54 : fx n_RL_digest 54 = some (.lstore_n 1, 55, []) := (congrArg (fun t => fxl t 54) e_72).trans rfl
theorem f_RL_digest_55 : fx n_RL_digest 55 = some (.iinc 3 1, 58, []) := (congrArg (fun t => fxl t 55) e_72).trans rfl
theorem f_RL_digest_58 : fx n_RL_digest 58 = some (.goto (-29), 61, [29]) := (congrArg (fun t => fxl t 58) e_72).trans rfl
theorem f_RL_digest_61 : fx n_RL_digest 61 = some (.iconst 0, 62, []) := (congrArg (fun t => fxl t 61) e_72).trans rfl
theorem f_RL_digest_62 : fx n_RL_digest 62 = some (.istore_n 3, 63, []) := (congrArg (fun t => fxl t 62) e_72).trans rfl
theorem f_RL_digest_63 : fx n_RL_digest 63 = some (.iload_n 3, 64, []) := (congrArg (fun t => fxl t 63) e_72).trans rfl
theorem f_RL_digest_64 : fx n_RL_digest 64 = some (.bipush 11, 66, []) := (congrArg (fun t => fxl t 64) e_72).trans rfl
theorem f_RL_digest_66 : fx n_RL_digest 66 = some (.if_icmp .ge 20, 69, [86]) := (congrArg (fun t => fxl t 66) e_72).trans rfl
theorem f_RL_digest_69 : fx n_RL_digest 69 = some (.lload_n 1, 70, []) := (congrArg (fun t => fxl t 69) e_72).trans rfl
theorem f_RL_digest_70 : fx n_RL_digest 70 = some (.aload_n 0, 71, []) := (congrArg (fun t => fxl t 70) e_72).trans rfl
theorem f_RL_digest_71 : fx n_RL_digest 71 = some (.iload_n 3, 72, []) := (congrArg (fun t => fxl t 71) e_72).trans rfl
theorem f_RL_digest_72 : fx n_RL_digest 72 = some (.invokevirtual 248, 75, [71, 1]) := (congrArg (fun t => fxl t 72) e_72).trans rfl
theorem f_RL_digest_75 : fx n_RL_digest 75 = some (.i2l, 76, []) := (congrArg (fun t => fxl t 75) e_72).trans rfl
theorem f_RL_digest_76 : fx n_RL_digest 76 = some (.invokestatic 244, 79, [77, 2]) := (congrArg (fun t => fxl t 76) e_72).trans rfl
theorem f_RL_digest_79 : fx n_RL_digest 79 = some (.lstore_n 1, 80, []) := (congrArg (fun t => fxl t 79) e_72).trans rfl
theorem f_RL_digest_80 : fx n_RL_digest 80 = some (.iinc 3 1, 83, []) := (congrArg (fun t => fxl t 80) e_72).trans rfl
theorem f_RL_digest_83 : fx n_RL_digest 83 = some (.goto (-20), 86, [63]) := (congrArg (fun t => fxl t 83) e_72).trans rfl
theorem f_RL_digest_86 : fx n_RL_digest 86 = some (.lload_n 1, 87, []) := (congrArg (fun t => fxl t 86) e_72).trans rfl
theorem f_RL_digest_87 : fx n_RL_digest 87 = some (.lreturn, 88, []) := (congrArg (fun t => fxl t 87) e_72).trans rfl
theorem f_RL_digestReaches_0 : fx n_RL_digestReaches 0 = some (.lload_n 1, 1, []) := (congrArg (fun t => fxl t 0) e_73).trans rfl
theorem f_RL_digestReaches_1 : fx n_RL_digestReaches 1 = some (.lstore_n 3, 2, []) := (congrArg (fun t => fxl t 1) e_73).trans rfl
theorem f_RL_digestReaches_2 : fx n_RL_digestReaches 2 = some (.aload_n 0, 3, []) := (congrArg (fun t => fxl t 2) e_73).trans rfl
theorem f_RL_digestReaches_3 : fx n_RL_digestReaches 3 = some (.getfield 49, 6, [6, 7]) := (congrArg (fun t => fxl t 3) e_73).trans rfl
theorem f_RL_digestReaches_6 : fx n_RL_digestReaches 6 = some (.aload_n 0, 7, []) := (congrArg (fun t => fxl t 6) e_73).trans rfl
theorem f_RL_digestReaches_7 : fx n_RL_digestReaches 7 = some (.getfield 19, 10, [6, 1]) := (congrArg (fun t => fxl t 7) e_73).trans rfl
theorem f_RL_digestReaches_10 : fx n_RL_digestReaches 10 = some (.invokevirtual 177, 13, [0, 1]) := (congrArg (fun t => fxl t 10) e_73).trans rfl
theorem f_RL_digestReaches_13 : fx n_RL_digestReaches 13 = some (.iconst 0, 14, []) := (congrArg (fun t => fxl t 13) e_73).trans rfl
theorem f_RL_digestReaches_14 : fx n_RL_digestReaches 14 = some (.istore 5, 16, []) := (congrArg (fun t => fxl t 14) e_73).trans rfl
theorem f_RL_digestReaches_16 : fx n_RL_digestReaches 16 = some (.iload 5, 18, []) := (congrArg (fun t => fxl t 16) e_73).trans rfl
theorem f_RL_digestReaches_18 : fx n_RL_digestReaches 18 = some (.aload_n 0, 19, []) := (congrArg (fun t => fxl t 18) e_73).trans rfl
theorem f_RL_digestReaches_19 : fx n_RL_digestReaches 19 = some (.getfield 19, 22, [6, 1]) := (congrArg (fun t => fxl t 19) e_73).trans rfl
theorem f_RL_digestReaches_22 : fx n_RL_digestReaches 22 = some (.getfield 201, 25, [2, 0]) := (congrArg (fun t => fxl t 22) e_73).trans rfl
theorem f_RL_digestReaches_25 : fx n_RL_digestReaches 25 = some (.if_icmp .ge 76, 28, [101]) := (congrArg (fun t => fxl t 25) e_73).trans rfl
theorem f_RL_digestReaches_28 : fx n_RL_digestReaches 28 = some (.iconst 0, 29, []) := (congrArg (fun t => fxl t 28) e_73).trans rfl
theorem f_RL_digestReaches_29 : fx n_RL_digestReaches 29 = some (.istore 6, 31, []) := (congrArg (fun t => fxl t 29) e_73).trans rfl
theorem f_RL_digestReaches_31 : fx n_RL_digestReaches 31 = some (.iload 6, 33, []) := (congrArg (fun t => fxl t 31) e_73).trans rfl
theorem f_RL_digestReaches_33 : fx n_RL_digestReaches 33 = some (.bipush 13, 35, []) := (congrArg (fun t => fxl t 33) e_73).trans rfl
theorem f_RL_digestReaches_35 : fx n_RL_digestReaches 35 = some (.if_icmp .ge 23, 38, [58]) := (congrArg (fun t => fxl t 35) e_73).trans rfl
theorem f_RL_digestReaches_38 : fx n_RL_digestReaches 38 = some (.lload_n 3, 39, []) := (congrArg (fun t => fxl t 38) e_73).trans rfl
theorem f_RL_digestReaches_39 : fx n_RL_digestReaches 39 = some (.aload_n 0, 40, []) := (congrArg (fun t => fxl t 39) e_73).trans rfl
theorem f_RL_digestReaches_40 : fx n_RL_digestReaches 40 = some (.iload 5, 42, []) := (congrArg (fun t => fxl t 40) e_73).trans rfl
theorem f_RL_digestReaches_42 : fx n_RL_digestReaches 42 = some (.iload 6, 44, []) := (congrArg (fun t => fxl t 42) e_73).trans rfl
theorem f_RL_digestReaches_44 : fx n_RL_digestReaches 44 = some (.invokevirtual 251, 47, [54, 2]) := (congrArg (fun t => fxl t 44) e_73).trans rfl
theorem f_RL_digestReaches_47 : fx n_RL_digestReaches 47 = some (.i2l, 48, []) := (congrArg (fun t => fxl t 47) e_73).trans rfl
theorem f_RL_digestReaches_48 : fx n_RL_digestReaches 48 = some (.invokestatic 244, 51, [77, 2]) := (congrArg (fun t => fxl t 48) e_73).trans rfl
theorem f_RL_digestReaches_51 : fx n_RL_digestReaches 51 = some (.lstore_n 3, 52, []) := (congrArg (fun t => fxl t 51) e_73).trans rfl
theorem f_RL_digestReaches_52 : fx n_RL_digestReaches 52 = some (.iinc 6 1, 55, []) := (congrArg (fun t => fxl t 52) e_73).trans rfl
theorem f_RL_digestReaches_55 : fx n_RL_digestReaches 55 = some (.goto (-24), 58, [31]) := (congrArg (fun t => fxl t 55) e_73).trans rfl
theorem f_RL_digestReaches_58 : fx n_RL_digestReaches 58 = some (.aload_n 0, 59, []) := (congrArg (fun t => fxl t 58) e_73).trans rfl
theorem f_RL_digestReaches_59 : fx n_RL_digestReaches 59 = some (.getfield 49, 62, [6, 7]) := (congrArg (fun t => fxl t 59) e_73).trans rfl
theorem f_RL_digestReaches_62 : fx n_RL_digestReaches 62 = some (.aload_n 0, 63, []) := (congrArg (fun t => fxl t 62) e_73).trans rfl
theorem f_RL_digestReaches_63 : fx n_RL_digestReaches 63 = some (.getfield 19, 66, [6, 1]) := (congrArg (fun t => fxl t 63) e_73).trans rfl
theorem f_RL_digestReaches_66 : fx n_RL_digestReaches 66 = some (.iload 5, 68, []) := (congrArg (fun t => fxl t 66) e_73).trans rfl
theorem f_RL_digestReaches_68 : fx n_RL_digestReaches 68 = some (.invokevirtual 180, 71, [4, 2]) := (congrArg (fun t => fxl t 68) e_73).trans rfl
theorem f_RL_digestReaches_71 : fx n_RL_digestReaches 71 = some (.lload_n 3, 72, []) := (congrArg (fun t => fxl t 71) e_73).trans rfl
theorem f_RL_digestReaches_72 : fx n_RL_digestReaches 72 = some (.aload_n 0, 73, []) := (congrArg (fun t => fxl t 72) e_73).trans rfl
theorem f_RL_digestReaches_73 : fx n_RL_digestReaches 73 = some (.getfield 49, 76, [6, 7]) := (congrArg (fun t => fxl t 73) e_73).trans rfl
theorem f_RL_digestReaches_76 : fx n_RL_digestReaches 76 = some (.getfield 184, 79, [0, 2]) := (congrArg (fun t => fxl t 76) e_73).trans rfl
theorem f_RL_digestReaches_79 : fx n_RL_digestReaches 79 = some (.i2l, 80, []) := (congrArg (fun t => fxl t 79) e_73).trans rfl
theorem f_RL_digestReaches_80 : fx n_RL_digestReaches 80 = some (.invokestatic 244, 83, [77, 2]) := (congrArg (fun t => fxl t 80) e_73).trans rfl
theorem f_RL_digestReaches_83 : fx n_RL_digestReaches 83 = some (.aload_n 0, 84, []) := (congrArg (fun t => fxl t 83) e_73).trans rfl
theorem f_RL_digestReaches_84 : fx n_RL_digestReaches 84 = some (.getfield 49, 87, [6, 7]) := (congrArg (fun t => fxl t 84) e_73).trans rfl
theorem f_RL_digestReaches_87 : fx n_RL_digestReaches 87 = some (.getfield 187, 90, [0, 3]) := (congrArg (fun t => fxl t 87) e_73).trans rfl
theorem f_RL_digestReaches_90 : fx n_RL_digestReaches 90 = some (.i2l, 91, []) := (congrArg (fun t => fxl t 90) e_73).trans rfl
theorem f_RL_digestReaches_91 : fx n_RL_digestReaches 91 = some (.invokestatic 244, 94, [77, 2]) := (congrArg (fun t => fxl t 91) e_73).trans rfl
theorem f_RL_digestReaches_94 : fx n_RL_digestReaches 94 = some (.lstore_n 3, 95, []) := (congrArg (fun t => fxl t 94) e_73).trans rfl
theorem f_RL_digestReaches_95 : fx n_RL_digestReaches 95 = some (.iinc 5 1, 98, []) := (congrArg (fun t => fxl t 95) e_73).trans rfl
theorem f_RL_digestReaches_98 : fx n_RL_digestReaches 98 = some (.goto (-82), 101, [16]) := (congrArg (fun t => fxl t 98) e_73).trans rfl
theorem f_RL_digestReaches_101 : fx n_RL_digestReaches 101 = some (.lload_n 3, 102, []) := (congrArg (fun t => fxl t 101) e_73).trans rfl
theorem f_RL_digestReaches_102 : fx n_RL_digestReaches 102 = some (.lreturn, 103, []) := (congrArg (fun t => fxl t 102) e_73).trans rfl
theorem f_RL_digestGovernesses_0 : fx n_RL_digestGovernesses 0 = some (.lload_n 1, 1, []) := (congrArg (fun t => fxl t 0) e_74).trans rfl
theorem f_RL_digestGovernesses_1 : fx n_RL_digestGovernesses 1 = some (.lstore_n 3, 2, []) := (congrArg (fun t => fxl t 1) e_74).trans rfl
theorem f_RL_digestGovernesses_2 : fx n_RL_digestGovernesses 2 = some (.iconst 0, 3, []) := (congrArg (fun t => fxl t 2) e_74).trans rfl
theorem f_RL_digestGovernesses_3 : fx n_RL_digestGovernesses 3 = some (.istore 5, 5, []) := (congrArg (fun t => fxl t 3) e_74).trans rfl
theorem f_RL_digestGovernesses_5 : fx n_RL_digestGovernesses 5 = some (.iload 5, 7, []) := (congrArg (fun t => fxl t 5) e_74).trans rfl
theorem f_RL_digestGovernesses_7 : fx n_RL_digestGovernesses 7 = some (.aload_n 0, 8, []) := (congrArg (fun t => fxl t 7) e_74).trans rfl
theorem f_RL_digestGovernesses_8 : fx n_RL_digestGovernesses 8 = some (.getfield 19, 11, [6, 1]) := (congrArg (fun t => fxl t 8) e_74).trans rfl
theorem f_RL_digestGovernesses_11 : fx n_RL_digestGovernesses 11 = some (.getfield 221, 14, [2, 1]) := (congrArg (fun t => fxl t 11) e_74).trans rfl
theorem f_RL_digestGovernesses_14 : fx n_RL_digestGovernesses 14 = some (.if_icmp .ge 93, 17, [107]) := (congrArg (fun t => fxl t 14) e_74).trans rfl
theorem f_RL_digestGovernesses_17 : fx n_RL_digestGovernesses 17 = some (.lload_n 3, 18, []) := (congrArg (fun t => fxl t 17) e_74).trans rfl
theorem f_RL_digestGovernesses_18 : fx n_RL_digestGovernesses 18 = some (.aload_n 0, 19, []) := (congrArg (fun t => fxl t 18) e_74).trans rfl
theorem f_RL_digestGovernesses_19 : fx n_RL_digestGovernesses 19 = some (.getfield 19, 22, [6, 1]) := (congrArg (fun t => fxl t 19) e_74).trans rfl
theorem f_RL_digestGovernesses_22 : fx n_RL_digestGovernesses 22 = some (.getfield 141, 25, [2, 9]) := (congrArg (fun t => fxl t 22) e_74).trans rfl
theorem f_RL_digestGovernesses_25 : fx n_RL_digestGovernesses 25 = some (.iload 5, 27, []) := (congrArg (fun t => fxl t 25) e_74).trans rfl
theorem f_RL_digestGovernesses_27 : fx n_RL_digestGovernesses 27 = some (.iaload, 28, []) := (congrArg (fun t => fxl t 27) e_74).trans rfl
theorem f_RL_digestGovernesses_28 : fx n_RL_digestGovernesses 28 = some (.i2l, 29, []) := (congrArg (fun t => fxl t 28) e_74).trans rfl
theorem f_RL_digestGovernesses_29 : fx n_RL_digestGovernesses 29 = some (.invokestatic 244, 32, [77, 2]) := (congrArg (fun t => fxl t 29) e_74).trans rfl
theorem f_RL_digestGovernesses_32 : fx n_RL_digestGovernesses 32 = some (.lstore_n 3, 33, []) := (congrArg (fun t => fxl t 32) e_74).trans rfl
theorem f_RL_digestGovernesses_33 : fx n_RL_digestGovernesses 33 = some (.aload_n 0, 34, []) := (congrArg (fun t => fxl t 33) e_74).trans rfl
theorem f_RL_digestGovernesses_34 : fx n_RL_digestGovernesses 34 = some (.getfield 42, 37, [6, 6]) := (congrArg (fun t => fxl t 34) e_74).trans rfl
theorem f_RL_digestGovernesses_37 : fx n_RL_digestGovernesses 37 = some (.aload_n 0, 38, []) := (congrArg (fun t => fxl t 37) e_74).trans rfl
theorem f_RL_digestGovernesses_38 : fx n_RL_digestGovernesses 38 = some (.getfield 19, 41, [6, 1]) := (congrArg (fun t => fxl t 38) e_74).trans rfl
theorem f_RL_digestGovernesses_41 : fx n_RL_digestGovernesses 41 = some (.iload 5, 43, []) := (congrArg (fun t => fxl t 41) e_74).trans rfl
theorem f_RL_digestGovernesses_43 : fx n_RL_digestGovernesses 43 = some (.iconst 2, 44, []) := (congrArg (fun t => fxl t 43) e_74).trans rfl
theorem f_RL_digestGovernesses_44 : fx n_RL_digestGovernesses 44 = some (.invokevirtual 161, 47, [33, 3]) := (congrArg (fun t => fxl t 44) e_74).trans rfl
theorem f_RL_digestGovernesses_47 : fx n_RL_digestGovernesses 47 = some (.lload_n 3, 48, []) := (congrArg (fun t => fxl t 47) e_74).trans rfl
theorem f_RL_digestGovernesses_48 : fx n_RL_digestGovernesses 48 = some (.aload_n 0, 49, []) := (congrArg (fun t => fxl t 48) e_74).trans rfl
theorem f_RL_digestGovernesses_49 : fx n_RL_digestGovernesses 49 = some (.getfield 42, 52, [6, 6]) := (congrArg (fun t => fxl t 49) e_74).trans rfl
theorem f_RL_digestGovernesses_52 : fx n_RL_digestGovernesses 52 = some (.iconst 0, 53, []) := (congrArg (fun t => fxl t 52) e_74).trans rfl
theorem f_RL_digestGovernesses_53 : fx n_RL_digestGovernesses 53 = some (.invokevirtual 165, 56, [40, 1]) := (congrArg (fun t => fxl t 53) e_74).trans rfl
theorem f_RL_digestGovernesses_56 : fx n_RL_digestGovernesses 56 = some (.i2l, 57, []) := (congrArg (fun t => fxl t 56) e_74).trans rfl
theorem f_RL_digestGovernesses_57 : fx n_RL_digestGovernesses 57 = some (.invokestatic 244, 60, [77, 2]) := (congrArg (fun t => fxl t 57) e_74).trans rfl
theorem f_RL_digestGovernesses_60 : fx n_RL_digestGovernesses 60 = some (.aload_n 0, 61, []) := (congrArg (fun t => fxl t 60) e_74).trans rfl
theorem f_RL_digestGovernesses_61 : fx n_RL_digestGovernesses 61 = some (.getfield 42, 64, [6, 6]) := (congrArg (fun t => fxl t 61) e_74).trans rfl
theorem f_RL_digestGovernesses_64 : fx n_RL_digestGovernesses 64 = some (.iconst 1, 65, []) := (congrArg (fun t => fxl t 64) e_74).trans rfl
theorem f_RL_digestGovernesses_65 : fx n_RL_digestGovernesses 65 = some (.invokevirtual 165, 68, [40, 1]) := (congrArg (fun t => fxl t 65) e_74).trans rfl
theorem f_RL_digestGovernesses_68 : fx n_RL_digestGovernesses 68 = some (.i2l, 69, []) := (congrArg (fun t => fxl t 68) e_74).trans rfl
theorem f_RL_digestGovernesses_69 : fx n_RL_digestGovernesses 69 = some (.invokestatic 244, 72, [77, 2]) := (congrArg (fun t => fxl t 69) e_74).trans rfl
theorem f_RL_digestGovernesses_72 : fx n_RL_digestGovernesses 72 = some (.lstore_n 3, 73, []) := (congrArg (fun t => fxl t 72) e_74).trans rfl
theorem f_RL_digestGovernesses_73 : fx n_RL_digestGovernesses 73 = some (.lload_n 3, 74, []) := (congrArg (fun t => fxl t 73) e_74).trans rfl
theorem f_RL_digestGovernesses_74 : fx n_RL_digestGovernesses 74 = some (.aload_n 0, 75, []) := (congrArg (fun t => fxl t 74) e_74).trans rfl
theorem f_RL_digestGovernesses_75 : fx n_RL_digestGovernesses 75 = some (.getfield 42, 78, [6, 6]) := (congrArg (fun t => fxl t 75) e_74).trans rfl
theorem f_RL_digestGovernesses_78 : fx n_RL_digestGovernesses 78 = some (.bipush 10, 80, []) := (congrArg (fun t => fxl t 78) e_74).trans rfl
theorem f_RL_digestGovernesses_80 : fx n_RL_digestGovernesses 80 = some (.invokevirtual 165, 83, [40, 1]) := (congrArg (fun t => fxl t 80) e_74).trans rfl
theorem f_RL_digestGovernesses_83 : fx n_RL_digestGovernesses 83 = some (.i2l, 84, []) := (congrArg (fun t => fxl t 83) e_74).trans rfl
theorem f_RL_digestGovernesses_84 : fx n_RL_digestGovernesses 84 = some (.invokestatic 244, 87, [77, 2]) := (congrArg (fun t => fxl t 84) e_74).trans rfl
theorem f_RL_digestGovernesses_87 : fx n_RL_digestGovernesses 87 = some (.aload_n 0, 88, []) := (congrArg (fun t => fxl t 87) e_74).trans rfl
theorem f_RL_digestGovernesses_88 : fx n_RL_digestGovernesses 88 = some (.getfield 42, 91, [6, 6]) := (congrArg (fun t => fxl t 88) e_74).trans rfl
theorem f_RL_digestGovernesses_91 : fx n_RL_digestGovernesses 91 = some (.bipush 11, 93, []) := (congrArg (fun t => fxl t 91) e_74).trans rfl
theorem f_RL_digestGovernesses_93 : fx n_RL_digestGovernesses 93 = some (.invokevirtual 165, 96, [40, 1]) := (congrArg (fun t => fxl t 93) e_74).trans rfl
theorem f_RL_digestGovernesses_96 : fx n_RL_digestGovernesses 96 = some (.i2l, 97, []) := (congrArg (fun t => fxl t 96) e_74).trans rfl
theorem f_RL_digestGovernesses_97 : fx n_RL_digestGovernesses 97 = some (.invokestatic 244, 100, [77, 2]) := (congrArg (fun t => fxl t 97) e_74).trans rfl
theorem f_RL_digestGovernesses_100 : fx n_RL_digestGovernesses 100 = some (.lstore_n 3, 101, []) := (congrArg (fun t => fxl t 100) e_74).trans rfl
theorem f_RL_digestGovernesses_101 : fx n_RL_digestGovernesses 101 = some (.iinc 5 1, 104, []) := (congrArg (fun t => fxl t 101) e_74).trans rfl
theorem f_RL_digestGovernesses_104 : fx n_RL_digestGovernesses 104 = some (.goto (-99), 107, [5]) := (congrArg (fun t => fxl t 104) e_74).trans rfl
theorem f_RL_digestGovernesses_107 : fx n_RL_digestGovernesses 107 = some (.lload_n 3, 108, []) := (congrArg (fun t => fxl t 107) e_74).trans rfl
theorem f_RL_digestGovernesses_108 : fx n_RL_digestGovernesses 108 = some (.lreturn, 109, []) := (congrArg (fun t => fxl t 108) e_74).trans rfl
theorem f_RL_digestRiver_0 : fx n_RL_digestRiver 0 = some (.aload_n 0, 1, []) := (congrArg (fun t => fxl t 0) e_75).trans rfl
theorem f_RL_digestRiver_1 : fx n_RL_digestRiver 1 = some (.getfield 42, 4, [6, 6]) := (congrArg (fun t => fxl t 1) e_75).trans rfl
theorem f_RL_digestRiver_4 : fx n_RL_digestRiver 4 = some (.aload_n 0, 5, []) := (congrArg (fun t => fxl t 4) e_75).trans rfl
theorem f_RL_digestRiver_5 : fx n_RL_digestRiver 5 = some (.getfield 19, 8, [6, 1]) := (congrArg (fun t => fxl t 5) e_75).trans rfl
theorem f_RL_digestRiver_8 : fx n_RL_digestRiver 8 = some (.invokevirtual 168, 11, [34, 1]) := (congrArg (fun t => fxl t 8) e_75).trans rfl
theorem f_RL_digestRiver_11 : fx n_RL_digestRiver 11 = some (.lload_n 1, 12, []) := (congrArg (fun t => fxl t 11) e_75).trans rfl
theorem f_RL_digestRiver_12 : fx n_RL_digestRiver 12 = some (.aload_n 0, 13, []) := (congrArg (fun t => fxl t 12) e_75).trans rfl
theorem f_RL_digestRiver_13 : fx n_RL_digestRiver 13 = some (.getfield 42, 16, [6, 6]) := (congrArg (fun t => fxl t 13) e_75).trans rfl
theorem f_RL_digestRiver_16 : fx n_RL_digestRiver 16 = some (.iconst 0, 17, []) := (congrArg (fun t => fxl t 16) e_75).trans rfl
theorem f_RL_digestRiver_17 : fx n_RL_digestRiver 17 = some (.invokevirtual 165, 20, [40, 1]) := (congrArg (fun t => fxl t 17) e_75).trans rfl
theorem f_RL_digestRiver_20 : fx n_RL_digestRiver 20 = some (.i2l, 21, []) := (congrArg (fun t => fxl t 20) e_75).trans rfl
theorem f_RL_digestRiver_21 : fx n_RL_digestRiver 21 = some (.invokestatic 244, 24, [77, 2]) := (congrArg (fun t => fxl t 21) e_75).trans rfl
theorem f_RL_digestRiver_24 : fx n_RL_digestRiver 24 = some (.aload_n 0, 25, []) := (congrArg (fun t => fxl t 24) e_75).trans rfl
theorem f_RL_digestRiver_25 : fx n_RL_digestRiver 25 = some (.getfield 42, 28, [6, 6]) := (congrArg (fun t => fxl t 25) e_75).trans rfl
theorem f_RL_digestRiver_28 : fx n_RL_digestRiver 28 = some (.iconst 1, 29, []) := (congrArg (fun t => fxl t 28) e_75).trans rfl
theorem f_RL_digestRiver_29 : fx n_RL_digestRiver 29 = some (.invokevirtual 165, 32, [40, 1]) := (congrArg (fun t => fxl t 29) e_75).trans rfl
theorem f_RL_digestRiver_32 : fx n_RL_digestRiver 32 = some (.i2l, 33, []) := (congrArg (fun t => fxl t 32) e_75).trans rfl
theorem f_RL_digestRiver_33 : fx n_RL_digestRiver 33 = some (.invokestatic 244, 36, [77, 2]) := (congrArg (fun t => fxl t 33) e_75).trans rfl
theorem f_RL_digestRiver_36 : fx n_RL_digestRiver 36 = some (.lstore_n 3, 37, []) := (congrArg (fun t => fxl t 36) e_75).trans rfl
theorem f_RL_digestRiver_37 : fx n_RL_digestRiver 37 = some (.iconst 0, 38, []) := (congrArg (fun t => fxl t 37) e_75).trans rfl
theorem f_RL_digestRiver_38 : fx n_RL_digestRiver 38 = some (.istore 5, 40, []) := (congrArg (fun t => fxl t 38) e_75).trans rfl
theorem f_RL_digestRiver_40 : fx n_RL_digestRiver 40 = some (.iload 5, 42, []) := (congrArg (fun t => fxl t 40) e_75).trans rfl
theorem f_RL_digestRiver_42 : fx n_RL_digestRiver 42 = some (.iconst 3, 43, []) := (congrArg (fun t => fxl t 42) e_75).trans rfl
theorem f_RL_digestRiver_43 : fx n_RL_digestRiver 43 = some (.if_icmp .ge 27, 46, [70]) := (congrArg (fun t => fxl t 43) e_75).trans rfl
theorem f_RL_digestRiver_46 : fx n_RL_digestRiver 46 = some (.lload_n 3, 47, []) := (congrArg (fun t => fxl t 46) e_75).trans rfl
theorem f_RL_digestRiver_47 : fx n_RL_digestRiver 47 = some (.aload_n 0, 48, []) := (congrArg (fun t => fxl t 47) e_75).trans rfl
theorem f_RL_digestRiver_48 : fx n_RL_digestRiver 48 = some (.getfield 42, 51, [6, 6]) := (congrArg (fun t => fxl t 48) e_75).trans rfl
theorem f_RL_digestRiver_51 : fx n_RL_digestRiver 51 = some (.bipush 10, 53, []) := (congrArg (fun t => fxl t 51) e_75).trans rfl
theorem f_RL_digestRiver_53 : fx n_RL_digestRiver 53 = some (.iload 5, 55, []) := (congrArg (fun t => fxl t 53) e_75).trans rfl
theorem f_RL_digestRiver_55 : fx n_RL_digestRiver 55 = some (.iadd, 56, []) := (congrArg (fun t => fxl t 55) e_75).trans rfl
theorem f_RL_digestRiver_56 : fx n_RL_digestRiver 56 = some (.invokevirtual 165, 59, [40, 1]) := (congrArg (fun t => fxl t 56) e_75).trans rfl
theorem f_RL_digestRiver_59 : fx n_RL_digestRiver 59 = some (.i2l, 60, []) := (congrArg (fun t => fxl t 59) e_75).trans rfl
theorem f_RL_digestRiver_60 : fx n_RL_digestRiver 60 = some (.invokestatic 244, 63, [77, 2]) := (congrArg (fun t => fxl t 60) e_75).trans rfl
theorem f_RL_digestRiver_63 : fx n_RL_digestRiver 63 = some (.lstore_n 3, 64, []) := (congrArg (fun t => fxl t 63) e_75).trans rfl
theorem f_RL_digestRiver_64 : fx n_RL_digestRiver 64 = some (.iinc 5 1, 67, []) := (congrArg (fun t => fxl t 64) e_75).trans rfl
theorem f_RL_digestRiver_67 : fx n_RL_digestRiver 67 = some (.goto (-27), 70, [40]) := (congrArg (fun t => fxl t 67) e_75).trans rfl
theorem f_RL_digestRiver_70 : fx n_RL_digestRiver 70 = some (.aload_n 0, 71, []) := (congrArg (fun t => fxl t 70) e_75).trans rfl
theorem f_RL_digestRiver_71 : fx n_RL_digestRiver 71 = some (.getfield 56, 74, [6, 8]) := (congrArg (fun t => fxl t 71) e_75).trans rfl
theorem f_RL_digestRiver_74 : fx n_RL_digestRiver 74 = some (.aload_n 0, 75, []) := (congrArg (fun t => fxl t 74) e_75).trans rfl
theorem f_RL_digestRiver_75 : fx n_RL_digestRiver 75 = some (.getfield 19, 78, [6, 1]) := (congrArg (fun t => fxl t 75) e_75).trans rfl
theorem f_RL_digestRiver_78 : fx n_RL_digestRiver 78 = some (.aload_n 0, 79, []) := (congrArg (fun t => fxl t 78) e_75).trans rfl
theorem f_RL_digestRiver_79 : fx n_RL_digestRiver 79 = some (.getfield 26, 82, [6, 3]) := (congrArg (fun t => fxl t 79) e_75).trans rfl
theorem f_RL_digestRiver_82 : fx n_RL_digestRiver 82 = some (.invokevirtual 172, 85, [47, 2]) := (congrArg (fun t => fxl t 82) e_75).trans rfl
theorem f_RL_digestRiver_85 : fx n_RL_digestRiver 85 = some (.lload_n 3, 86, []) := (congrArg (fun t => fxl t 85) e_75).trans rfl
theorem f_RL_digestRiver_86 : fx n_RL_digestRiver 86 = some (.aload_n 0, 87, []) := (congrArg (fun t => fxl t 86) e_75).trans rfl
theorem f_RL_digestRiver_87 : fx n_RL_digestRiver 87 = some (.getfield 56, 90, [6, 8]) := (congrArg (fun t => fxl t 87) e_75).trans rfl
theorem f_RL_digestRiver_90 : fx n_RL_digestRiver 90 = some (.iconst 0, 91, []) := (congrArg (fun t => fxl t 90) e_75).trans rfl
theorem f_RL_digestRiver_91 : fx n_RL_digestRiver 91 = some (.invokevirtual 176, 94, [49, 1]) := (congrArg (fun t => fxl t 91) e_75).trans rfl
theorem f_RL_digestRiver_94 : fx n_RL_digestRiver 94 = some (.i2l, 95, []) := (congrArg (fun t => fxl t 94) e_75).trans rfl
theorem f_RL_digestRiver_95 : fx n_RL_digestRiver 95 = some (.invokestatic 244, 98, [77, 2]) := (congrArg (fun t => fxl t 95) e_75).trans rfl
theorem f_RL_digestRiver_98 : fx n_RL_digestRiver 98 = some (.aload_n 0, 99, []) := (congrArg (fun t => fxl t 98) e_75).trans rfl
theorem f_RL_digestRiver_99 : fx n_RL_digestRiver 99 = some (.getfield 56, 102, [6, 8]) := (congrArg (fun t => fxl t 99) e_75).trans rfl
theorem f_RL_digestRiver_102 : fx n_RL_digestRiver 102 = some (.iconst 1, 103, []) := (congrArg (fun t => fxl t 102) e_75).trans rfl
theorem f_RL_digestRiver_103 : fx n_RL_digestRiver 103 = some (.invokevirtual 176, 106, [49, 1]) := (congrArg (fun t => fxl t 103) e_75).trans rfl
theorem f_RL_digestRiver_106 : fx n_RL_digestRiver 106 = some (.i2l, 107, []) := (congrArg (fun t => fxl t 106) e_75).trans rfl
theorem f_RL_digestRiver_107 : fx n_RL_digestRiver 107 = some (.invokestatic 244, 110, [77, 2]) := (congrArg (fun t => fxl t 107) e_75).trans rfl
theorem f_RL_digestRiver_110 : fx n_RL_digestRiver 110 = some (.lreturn, 111, []) := (congrArg (fun t => fxl t 110) e_75).trans rfl
theorem f_RL_hasRiver_0 : fx n_RL_hasRiver 0 = some (.aload_n 0, 1, []) := (congrArg (fun t => fxl t 0) e_76).trans rfl
theorem f_RL_hasRiver_1 : fx n_RL_hasRiver 1 = some (.getfield 19, 4, [6, 1]) := (congrArg (fun t => fxl t 1) e_76).trans rfl
theorem f_RL_hasRiver_4 : fx n_RL_hasRiver 4 = some (.getfield 201, 7, [2, 0]) := (congrArg (fun t => fxl t 4) e_76).trans rfl
theorem f_RL_hasRiver_7 : fx n_RL_hasRiver 7 = some (.ifCond .le 7, 10, [14]) := (congrArg (fun t => fxl t 7) e_76).trans rfl
theorem f_RL_hasRiver_10 : fx n_RL_hasRiver 10 = some (.iconst 1, 11, []) := (congrArg (fun t => fxl t 10) e_76).trans rfl
theorem f_RL_hasRiver_11 : fx n_RL_hasRiver 11 = some (.goto 4, 14, [15]) := (congrArg (fun t => fxl t 11) e_76).trans rfl
theorem f_RL_hasRiver_14 : fx n_RL_hasRiver 14 = some (.iconst 0, 15, []) := (congrArg (fun t => fxl t 14) e_76).trans rfl
theorem f_RL_hasRiver_15 : fx n_RL_hasRiver 15 = some (.ireturn, 16, []) := (congrArg (fun t => fxl t 15) e_76).trans rfl
theorem f_RL_mixed_0 : fx n_RL_mixed 0 = some (.ldc2_w 255, 3, []) := (congrArg (fun t => fxl t 0) e_77).trans rfl
theorem f_RL_mixed_3 : fx n_RL_mixed 3 = some (.lload_n 0, 4, []) := (congrArg (fun t => fxl t 3) e_77).trans rfl
theorem f_RL_mixed_4 : fx n_RL_mixed 4 = some (.lmul, 5, []) := (congrArg (fun t => fxl t 4) e_77).trans rfl
theorem f_RL_mixed_5 : fx n_RL_mixed 5 = some (.lload_n 2, 6, []) := (congrArg (fun t => fxl t 5) e_77).trans rfl
theorem f_RL_mixed_6 : fx n_RL_mixed 6 = some (.ladd, 7, []) := (congrArg (fun t => fxl t 6) e_77).trans rfl
theorem f_RL_mixed_7 : fx n_RL_mixed 7 = some (.lreturn, 8, []) := (congrArg (fun t => fxl t 7) e_77).trans rfl
theorem f_RL_isKind_0 : fx n_RL_isKind 0 = some (.iload_n 0, 1, []) := (congrArg (fun t => fxl t 0) e_78).trans rfl
theorem f_RL_isKind_1 : fx n_RL_isKind 1 = some (.ifCond .lt 17, 4, [18]) := (congrArg (fun t => fxl t 1) e_78).trans rfl
theorem f_RL_isKind_4 : fx n_RL_isKind 4 = some (.iload_n 0, 5, []) := (congrArg (fun t => fxl t 4) e_78).trans rfl
theorem f_RL_isKind_5 : fx n_RL_isKind 5 = some (.ldc_w 257, 8, []) := (congrArg (fun t => fxl t 5) e_78).trans rfl
theorem f_RL_isKind_8 : fx n_RL_isKind 8 = some (.invokevirtual 259, 11, [903, 0]) := (congrArg (fun t => fxl t 8) e_78).trans rfl
theorem f_RL_isKind_11 : fx n_RL_isKind 11 = some (.if_icmp .ge 7, 14, [18]) := (congrArg (fun t => fxl t 11) e_78).trans rfl
theorem f_RL_isKind_14 : fx n_RL_isKind 14 = some (.iconst 1, 15, []) := (congrArg (fun t => fxl t 14) e_78).trans rfl
theorem f_RL_isKind_15 : fx n_RL_isKind 15 = some (.goto 4, 18, [19]) := (congrArg (fun t => fxl t 15) e_78).trans rfl
theorem f_RL_isKind_18 : fx n_RL_isKind 18 = some (.iconst 0, 19, []) := (congrArg (fun t => fxl t 18) e_78).trans rfl
theorem f_RL_isKind_19 : fx n_RL_isKind 19 = some (.ireturn, 20, []) := (congrArg (fun t => fxl t 19) e_78).trans rfl
theorem f_RL_isBrook_0 : fx n_RL_isBrook 0 = some (.iload_n 0, 1, []) := (congrArg (fun t => fxl t 0) e_79).trans rfl
theorem f_RL_isBrook_1 : fx n_RL_isBrook 1 = some (.iconst 1, 2, []) := (congrArg (fun t => fxl t 1) e_79).trans rfl
theorem f_RL_isBrook_2 : fx n_RL_isBrook 2 = some (.if_icmp .eq 8, 5, [10]) := (congrArg (fun t => fxl t 2) e_79).trans rfl
theorem f_RL_isBrook_5 : fx n_RL_isBrook 5 = some (.iload_n 0, 6, []) := (congrArg (fun t => fxl t 5) e_79).trans rfl
theorem f_RL_isBrook_6 : fx n_RL_isBrook 6 = some (.iconst 4, 7, []) := (congrArg (fun t => fxl t 6) e_79).trans rfl
theorem f_RL_isBrook_7 : fx n_RL_isBrook 7 = some (.if_icmp .ne 7, 10, [14]) := (congrArg (fun t => fxl t 7) e_79).trans rfl
theorem f_RL_isBrook_10 : fx n_RL_isBrook 10 = some (.iconst 1, 11, []) := (congrArg (fun t => fxl t 10) e_79).trans rfl
theorem f_RL_isBrook_11 : fx n_RL_isBrook 11 = some (.goto 4, 14, [15]) := (congrArg (fun t => fxl t 11) e_79).trans rfl
theorem f_RL_isBrook_14 : fx n_RL_isBrook 14 = some (.iconst 0, 15, []) := (congrArg (fun t => fxl t 14) e_79).trans rfl
theorem f_RL_isBrook_15 : fx n_RL_isBrook 15 = some (.ireturn, 16, []) := (congrArg (fun t => fxl t 15) e_79).trans rfl
theorem f_RL_outOf_0 : fx n_RL_outOf 0 = some (.iload_n 0, 1, []) := (congrArg (fun t => fxl t 0) e_80).trans rfl
theorem f_RL_outOf_1 : fx n_RL_outOf 1 = some (.iconst 3, 2, []) := (congrArg (fun t => fxl t 1) e_80).trans rfl
theorem f_RL_outOf_2 : fx n_RL_outOf 2 = some (.if_icmp .ne 10, 5, [12]) := (congrArg (fun t => fxl t 2) e_80).trans rfl
theorem f_RL_outOf_5 : fx n_RL_outOf 5 = some (.iload_n 1, 6, []) := (congrArg (fun t => fxl t 5) e_80).trans rfl
theorem f_RL_outOf_6 : fx n_RL_outOf 6 = some (.bipush 9, 8, []) := (congrArg (fun t => fxl t 6) e_80).trans rfl
theorem f_RL_outOf_8 : fx n_RL_outOf 8 = some (.invokestatic 264, 11, [900, 2]) := (congrArg (fun t => fxl t 8) e_80).trans rfl
theorem f_RL_outOf_11 : fx n_RL_outOf 11 = some (.ireturn, 12, []) := (congrArg (fun t => fxl t 11) e_80).trans rfl
theorem f_RL_outOf_12 : fx n_RL_outOf 12 = some (.iload_n 0, 13, []) := (congrArg (fun t => fxl t 12) e_80).trans rfl
theorem f_RL_outOf_13 : fx n_RL_outOf 13 = some (.iconst 4, 14, []) := (congrArg (fun t => fxl t 13) e_80).trans rfl
theorem f_RL_outOf_14 : fx n_RL_outOf 14 = some (.if_icmp .ne 9, 17, [23]) := (congrArg (fun t => fxl t 14) e_80).trans rfl
theorem f_RL_outOf_17 : fx n_RL_outOf 17 = some (.iload_n 1, 18, []) := (congrArg (fun t => fxl t 17) e_80).trans rfl
theorem f_RL_outOf_18 : fx n_RL_outOf 18 = some (.iconst 2, 19, []) := (congrArg (fun t => fxl t 18) e_80).trans rfl
theorem f_RL_outOf_19 : fx n_RL_outOf 19 = some (.idiv, 20, []) := (congrArg (fun t => fxl t 19) e_80).trans rfl
theorem f_RL_outOf_20 : fx n_RL_outOf 20 = some (.goto 4, 23, [24]) := (congrArg (fun t => fxl t 20) e_80).trans rfl
theorem f_RL_outOf_23 : fx n_RL_outOf 23 = some (.iload_n 1, 24, []) := (congrArg (fun t => fxl t 23) e_80).trans rfl
theorem f_RL_outOf_24 : fx n_RL_outOf 24 = some (.ireturn, 25, []) := (congrArg (fun t => fxl t 24) e_80).trans rfl
theorem f_RL_overflows_0 : fx n_RL_overflows 0 = some (.iload_n 0, 1, []) := (congrArg (fun t => fxl t 0) e_81).trans rfl
theorem f_RL_overflows_1 : fx n_RL_overflows 1 = some (.iconst 2, 2, []) := (congrArg (fun t => fxl t 1) e_81).trans rfl
theorem f_RL_overflows_2 : fx n_RL_overflows 2 = some (.if_icmp .ne 9, 5, [11]) := (congrArg (fun t => fxl t 2) e_81).trans rfl
theorem f_RL_overflows_5 : fx n_RL_overflows 5 = some (.iconst 2, 6, []) := (congrArg (fun t => fxl t 5) e_81).trans rfl
theorem f_RL_overflows_6 : fx n_RL_overflows 6 = some (.iload_n 2, 7, []) := (congrArg (fun t => fxl t 6) e_81).trans rfl
theorem f_RL_overflows_7 : fx n_RL_overflows 7 = some (.imul, 8, []) := (congrArg (fun t => fxl t 7) e_81).trans rfl
theorem f_RL_overflows_8 : fx n_RL_overflows 8 = some (.goto 4, 11, [12]) := (congrArg (fun t => fxl t 8) e_81).trans rfl
theorem f_RL_overflows_11 : fx n_RL_overflows 11 = some (.iload_n 2, 12, []) := (congrArg (fun t => fxl t 11) e_81).trans rfl
theorem f_RL_overflows_12 : fx n_RL_overflows 12 = some (.istore_n 3, 13, []) := (congrArg (fun t => fxl t 12) e_81).trans rfl
theorem f_RL_overflows_13 : fx n_RL_overflows 13 = some (.iload_n 1, 14, []) := (congrArg (fun t => fxl t 13) e_81).trans rfl
theorem f_RL_overflows_14 : fx n_RL_overflows 14 = some (.iload_n 3, 15, []) := (congrArg (fun t => fxl t 14) e_81).trans rfl
theorem f_RL_overflows_15 : fx n_RL_overflows 15 = some (.iadd, 16, []) := (congrArg (fun t => fxl t 15) e_81).trans rfl
theorem f_RL_overflows_16 : fx n_RL_overflows 16 = some (.bipush 20, 18, []) := (congrArg (fun t => fxl t 16) e_81).trans rfl
theorem f_RL_overflows_18 : fx n_RL_overflows 18 = some (.if_icmp .le 7, 21, [25]) := (congrArg (fun t => fxl t 18) e_81).trans rfl
theorem f_RL_overflows_21 : fx n_RL_overflows 21 = some (.iconst 1, 22, []) := (congrArg (fun t => fxl t 21) e_81).trans rfl
theorem f_RL_overflows_22 : fx n_RL_overflows 22 = some (.goto 4, 25, [26]) := (congrArg (fun t => fxl t 22) e_81).trans rfl
theorem f_RL_overflows_25 : fx n_RL_overflows 25 = some (.iconst 0, 26, []) := (congrArg (fun t => fxl t 25) e_81).trans rfl
theorem f_RL_overflows_26 : fx n_RL_overflows 26 = some (.ireturn, 27, []) := (congrArg (fun t => fxl t 26) e_81).trans rfl
theorem f_RL_wildAfter_0 : fx n_RL_wildAfter 0 = some (.iload_n 3, 1, []) := (congrArg (fun t => fxl t 0) e_82).trans rfl
theorem f_RL_wildAfter_1 : fx n_RL_wildAfter 1 = some (.ifCond .ne 22, 4, [23]) := (congrArg (fun t => fxl t 1) e_82).trans rfl
theorem f_RL_wildAfter_4 : fx n_RL_wildAfter 4 = some (.iload_n 2, 5, []) := (congrArg (fun t => fxl t 4) e_82).trans rfl
theorem f_RL_wildAfter_5 : fx n_RL_wildAfter 5 = some (.iconst 3, 6, []) := (congrArg (fun t => fxl t 5) e_82).trans rfl
theorem f_RL_wildAfter_6 : fx n_RL_wildAfter 6 = some (.irem, 7, []) := (congrArg (fun t => fxl t 6) e_82).trans rfl
theorem f_RL_wildAfter_7 : fx n_RL_wildAfter 7 = some (.ifCond .ne 14, 10, [21]) := (congrArg (fun t => fxl t 7) e_82).trans rfl
theorem f_RL_wildAfter_10 : fx n_RL_wildAfter 10 = some (.iload_n 1, 11, []) := (congrArg (fun t => fxl t 10) e_82).trans rfl
theorem f_RL_wildAfter_11 : fx n_RL_wildAfter 11 = some (.iconst 1, 12, []) := (congrArg (fun t => fxl t 11) e_82).trans rfl
theorem f_RL_wildAfter_12 : fx n_RL_wildAfter 12 = some (.iadd, 13, []) := (congrArg (fun t => fxl t 12) e_82).trans rfl
theorem f_RL_wildAfter_13 : fx n_RL_wildAfter 13 = some (.bipush 9, 15, []) := (congrArg (fun t => fxl t 13) e_82).trans rfl
theorem f_RL_wildAfter_15 : fx n_RL_wildAfter 15 = some (.invokestatic 264, 18, [900, 2]) := (congrArg (fun t => fxl t 15) e_82).trans rfl
theorem f_RL_wildAfter_18 : fx n_RL_wildAfter 18 = some (.goto 4, 21, [22]) := (congrArg (fun t => fxl t 18) e_82).trans rfl
theorem f_RL_wildAfter_21 : fx n_RL_wildAfter 21 = some (.iload_n 1, 22, []) := (congrArg (fun t => fxl t 21) e_82).trans rfl
theorem f_RL_wildAfter_22 : fx n_RL_wildAfter 22 = some (.ireturn, 23, []) := (congrArg (fun t => fxl t 22) e_82).trans rfl
theorem f_RL_wildAfter_23 : fx n_RL_wildAfter 23 = some (.iload_n 0, 24, []) := (congrArg (fun t => fxl t 23) e_82).trans rfl
theorem f_RL_wildAfter_24 : fx n_RL_wildAfter 24 = some (.invokestatic 135, 27, [79, 1]) := (congrArg (fun t => fxl t 24) e_82).trans rfl
theorem f_RL_wildAfter_27 : fx n_RL_wildAfter 27 = some (.ifCond .eq 9, 30, [36]) := (congrArg (fun t => fxl t 27) e_82).trans rfl
theorem f_RL_wildAfter_30 : fx n_RL_wildAfter 30 = some (.iload_n 2, 31, []) := (congrArg (fun t => fxl t 30) e_82).trans rfl
theorem f_RL_wildAfter_31 : fx n_RL_wildAfter 31 = some (.iconst 2, 32, []) := (congrArg (fun t => fxl t 31) e_82).trans rfl
theorem f_RL_wildAfter_32 : fx n_RL_wildAfter 32 = some (.irem, 33, []) := (congrArg (fun t => fxl t 32) e_82).trans rfl
theorem f_RL_wildAfter_33 : fx n_RL_wildAfter 33 = some (.ifCond .ne 7, 36, [40]) := (congrArg (fun t => fxl t 33) e_82).trans rfl
theorem f_RL_wildAfter_36 : fx n_RL_wildAfter 36 = some (.iconst 1, 37, []) := (congrArg (fun t => fxl t 36) e_82).trans rfl
theorem f_RL_wildAfter_37 : fx n_RL_wildAfter 37 = some (.goto 4, 40, [41]) := (congrArg (fun t => fxl t 37) e_82).trans rfl
theorem f_RL_wildAfter_40 : fx n_RL_wildAfter 40 = some (.iconst 0, 41, []) := (congrArg (fun t => fxl t 40) e_82).trans rfl
theorem f_RL_wildAfter_41 : fx n_RL_wildAfter 41 = some (.istore 4, 43, []) := (congrArg (fun t => fxl t 41) e_82).trans rfl
theorem f_RL_wildAfter_43 : fx n_RL_wildAfter 43 = some (.iload 4, 45, []) := (congrArg (fun t => fxl t 43) e_82).trans rfl
theorem f_RL_wildAfter_45 : fx n_RL_wildAfter 45 = some (.ifCond .eq 13, 48, [58]) := (congrArg (fun t => fxl t 45) e_82).trans rfl
theorem f_RL_wildAfter_48 : fx n_RL_wildAfter 48 = some (.iload_n 1, 49, []) := (congrArg (fun t => fxl t 48) e_82).trans rfl
theorem f_RL_wildAfter_49 : fx n_RL_wildAfter 49 = some (.iload_n 3, 50, []) := (congrArg (fun t => fxl t 49) e_82).trans rfl
theorem f_RL_wildAfter_50 : fx n_RL_wildAfter 50 = some (.isub, 51, []) := (congrArg (fun t => fxl t 50) e_82).trans rfl
theorem f_RL_wildAfter_51 : fx n_RL_wildAfter 51 = some (.iconst 0, 52, []) := (congrArg (fun t => fxl t 51) e_82).trans rfl
theorem f_RL_wildAfter_52 : fx n_RL_wildAfter 52 = some (.invokestatic 269, 55, [901, 2]) := (congrArg (fun t => fxl t 52) e_82).trans rfl
theorem f_RL_wildAfter_55 : fx n_RL_wildAfter 55 = some (.goto 4, 58, [59]) := (congrArg (fun t => fxl t 55) e_82).trans rfl
theorem f_RL_wildAfter_58 : fx n_RL_wildAfter 58 = some (.iload_n 1, 59, []) := (congrArg (fun t => fxl t 58) e_82).trans rfl
theorem f_RL_wildAfter_59 : fx n_RL_wildAfter 59 = some (.ireturn, 60, []) := (congrArg (fun t => fxl t 59) e_82).trans rfl
theorem f_RL_nextSeed_0 : fx n_RL_nextSeed 0 = some (.ldc2_w 272, 3, []) := (congrArg (fun t => fxl t 0) e_83).trans rfl
theorem f_RL_nextSeed_3 : fx n_RL_nextSeed 3 = some (.lload_n 0, 4, []) := (congrArg (fun t => fxl t 3) e_83).trans rfl
theorem f_RL_nextSeed_4 : fx n_RL_nextSeed 4 = some (.lmul, 5, []) := (congrArg (fun t => fxl t 4) e_83).trans rfl
theorem f_RL_nextSeed_5 : fx n_RL_nextSeed 5 = some (.ldc2_w 274, 8, []) := (congrArg (fun t => fxl t 5) e_83).trans rfl
theorem f_RL_nextSeed_8 : fx n_RL_nextSeed 8 = some (.ladd, 9, []) := (congrArg (fun t => fxl t 8) e_83).trans rfl
theorem f_RL_nextSeed_9 : fx n_RL_nextSeed 9 = some (.ldc2_w 276, 12, []) := (congrArg (fun t => fxl t 9) e_83).trans rfl
theorem f_RL_nextSeed_12 : fx n_RL_nextSeed 12 = some (.lrem, 13, []) := (congrArg (fun t => fxl t 12) e_83).trans rfl
theorem f_RL_nextSeed_13 : fx n_RL_nextSeed 13 = some (.lreturn, 14, []) := (congrArg (fun t => fxl t 13) e_83).trans rfl
theorem f_RL_drawn_0 : fx n_RL_drawn 0 = some (.iload_n 2, 1, []) := (congrArg (fun t => fxl t 0) e_84).trans rfl
theorem f_RL_drawn_1 : fx n_RL_drawn 1 = some (.ifCond .le 15, 4, [16]) := (congrArg (fun t => fxl t 1) e_84).trans rfl
theorem f_RL_drawn_4 : fx n_RL_drawn 4 = some (.lload_n 0, 5, []) := (congrArg (fun t => fxl t 4) e_84).trans rfl
theorem f_RL_drawn_5 : fx n_RL_drawn 5 = some (.ldc2_w 278, 8, []) := (congrArg (fun t => fxl t 5) e_84).trans rfl
theorem f_RL_drawn_8 : fx n_RL_drawn 8 = some (.ldiv, 9, []) := (congrArg (fun t => fxl t 8) e_84).trans rfl
theorem f_RL_drawn_9 : fx n_RL_drawn 9 = some (.iload_n 2, 10, []) := (congrArg (fun t => fxl t 9) e_84).trans rfl
theorem f_RL_drawn_10 : fx n_RL_drawn 10 = some (.i2l, 11, []) := (congrArg (fun t => fxl t 10) e_84).trans rfl
theorem f_RL_drawn_11 : fx n_RL_drawn 11 = some (.lrem, 12, []) := (congrArg (fun t => fxl t 11) e_84).trans rfl
theorem f_RL_drawn_12 : fx n_RL_drawn 12 = some (.l2i, 13, []) := (congrArg (fun t => fxl t 12) e_84).trans rfl
theorem f_RL_drawn_13 : fx n_RL_drawn 13 = some (.goto 4, 16, [17]) := (congrArg (fun t => fxl t 13) e_84).trans rfl
theorem f_RL_drawn_16 : fx n_RL_drawn 16 = some (.iconst 0, 17, []) := (congrArg (fun t => fxl t 16) e_84).trans rfl
theorem f_RL_drawn_17 : fx n_RL_drawn 17 = some (.ireturn, 18, []) := (congrArg (fun t => fxl t 17) e_84).trans rfl
theorem f_Mo_in_0 : fx n_Mo_in 0 = some (.lload_n 0, 1, []) := (congrArg (fun t => fxl t 0) e_85).trans rfl
theorem f_Mo_in_1 : fx n_Mo_in 1 = some (.lload_n 2, 2, []) := (congrArg (fun t => fxl t 1) e_85).trans rfl
theorem f_Mo_in_2 : fx n_Mo_in 2 = some (.lcmp, 3, []) := (congrArg (fun t => fxl t 2) e_85).trans rfl
theorem f_Mo_in_3 : fx n_Mo_in 3 = some (.ifCond .lt 14, 6, [17]) := (congrArg (fun t => fxl t 3) e_85).trans rfl
theorem f_Mo_in_6 : fx n_Mo_in 6 = some (.lload_n 0, 7, []) := (congrArg (fun t => fxl t 6) e_85).trans rfl
theorem f_Mo_in_7 : fx n_Mo_in 7 = some (.lload 4, 9, []) := (congrArg (fun t => fxl t 7) e_85).trans rfl
theorem f_Mo_in_9 : fx n_Mo_in 9 = some (.lcmp, 10, []) := (congrArg (fun t => fxl t 9) e_85).trans rfl
theorem f_Mo_in_10 : fx n_Mo_in 10 = some (.ifCond .gt 7, 13, [17]) := (congrArg (fun t => fxl t 10) e_85).trans rfl
theorem f_Mo_in_13 : fx n_Mo_in 13 = some (.iconst 1, 14, []) := (congrArg (fun t => fxl t 13) e_85).trans rfl
theorem f_Mo_in_14 : fx n_Mo_in 14 = some (.goto 4, 17, [18]) := (congrArg (fun t => fxl t 14) e_85).trans rfl
theorem f_Mo_in_17 : fx n_Mo_in 17 = some (.iconst 0, 18, []) := (congrArg (fun t => fxl t 17) e_85).trans rfl
theorem f_Mo_in_18 : fx n_Mo_in 18 = some (.ireturn, 19, []) := (congrArg (fun t => fxl t 18) e_85).trans rfl
theorem f_Mo_copy_0 : fx n_Mo_copy 0 = some (.iconst 0, 1, []) := (congrArg (fun t => fxl t 0) e_86).trans rfl
theorem f_Mo_copy_1 : fx n_Mo_copy 1 = some (.istore_n 2, 2, []) := (congrArg (fun t => fxl t 1) e_86).trans rfl
theorem f_Mo_copy_2 : fx n_Mo_copy 2 = some (.iload_n 2, 3, []) := (congrArg (fun t => fxl t 2) e_86).trans rfl
theorem f_Mo_copy_3 : fx n_Mo_copy 3 = some (.aload_n 0, 4, []) := (congrArg (fun t => fxl t 3) e_86).trans rfl
theorem f_Mo_copy_4 : fx n_Mo_copy 4 = some (.arraylength, 5, []) := (congrArg (fun t => fxl t 4) e_86).trans rfl
theorem f_Mo_copy_5 : fx n_Mo_copy 5 = some (.if_icmp .ge 15, 8, [20]) := (congrArg (fun t => fxl t 5) e_86).trans rfl
theorem f_Mo_copy_8 : fx n_Mo_copy 8 = some (.aload_n 1, 9, []) := (congrArg (fun t => fxl t 8) e_86).trans rfl
theorem f_Mo_copy_9 : fx n_Mo_copy 9 = some (.iload_n 2, 10, []) := (congrArg (fun t => fxl t 9) e_86).trans rfl
theorem f_Mo_copy_10 : fx n_Mo_copy 10 = some (.aload_n 0, 11, []) := (congrArg (fun t => fxl t 10) e_86).trans rfl
theorem f_Mo_copy_11 : fx n_Mo_copy 11 = some (.iload_n 2, 12, []) := (congrArg (fun t => fxl t 11) e_86).trans rfl
theorem f_Mo_copy_12 : fx n_Mo_copy 12 = some (.iaload, 13, []) := (congrArg (fun t => fxl t 12) e_86).trans rfl
theorem f_Mo_copy_13 : fx n_Mo_copy 13 = some (.iastore, 14, []) := (congrArg (fun t => fxl t 13) e_86).trans rfl
theorem f_Mo_copy_14 : fx n_Mo_copy 14 = some (.iinc 2 1, 17, []) := (congrArg (fun t => fxl t 14) e_86).trans rfl
theorem f_Mo_copy_17 : fx n_Mo_copy 17 = some (.goto (-15), 20, [2]) := (congrArg (fun t => fxl t 17) e_86).trans rfl
theorem f_Mo_copy_20 : fx n_Mo_copy 20 = some (.return_, 21, []) := (congrArg (fun t => fxl t 20) e_86).trans rfl
theorem f_Mo_ones_0 : fx n_Mo_ones 0 = some (.iconst 0, 1, []) := (congrArg (fun t => fxl t 0) e_87).trans rfl
theorem f_Mo_ones_1 : fx n_Mo_ones 1 = some (.istore_n 1, 2, []) := (congrArg (fun t => fxl t 1) e_87).trans rfl
theorem f_Mo_ones_2 : fx n_Mo_ones 2 = some (.iconst 0, 3, []) := (congrArg (fun t => fxl t 2) e_87).trans rfl
theorem f_Mo_ones_3 : fx n_Mo_ones 3 = some (.istore_n 2, 4, []) := (congrArg (fun t => fxl t 3) e_87).trans rfl
theorem f_Mo_ones_4 : fx n_Mo_ones 4 = some (.iload_n 2, 5, []) := (congrArg (fun t => fxl t 4) e_87).trans rfl
theorem f_Mo_ones_5 : fx n_Mo_ones 5 = some (.bipush 8, 7, []) := (congrArg (fun t => fxl t 5) e_87).trans rfl
theorem f_Mo_ones_7 : fx n_Mo_ones 7 = some (.if_icmp .ge 17, 10, [24]) := (congrArg (fun t => fxl t 7) e_87).trans rfl
theorem f_Mo_ones_10 : fx n_Mo_ones 10 = some (.iload_n 1, 11, []) := (congrArg (fun t => fxl t 10) e_87).trans rfl
theorem f_Mo_ones_11 : fx n_Mo_ones 11 = some (.iload_n 0, 12, []) := (congrArg (fun t => fxl t 11) e_87).trans rfl
theorem f_Mo_ones_12 : fx n_Mo_ones 12 = some (.iload_n 2, 13, []) := (congrArg (fun t => fxl t 12) e_87).trans rfl
theorem f_Mo_ones_13 : fx n_Mo_ones 13 = some (.ishr, 14, []) := (congrArg (fun t => fxl t 13) e_87).trans rfl
theorem f_Mo_ones_14 : fx n_Mo_ones 14 = some (.iconst 1, 15, []) := (congrArg (fun t => fxl t 14) e_87).trans rfl
theorem f_Mo_ones_15 : fx n_Mo_ones 15 = some (.iand, 16, []) := (congrArg (fun t => fxl t 15) e_87).trans rfl
theorem f_Mo_ones_16 : fx n_Mo_ones 16 = some (.iadd, 17, []) := (congrArg (fun t => fxl t 16) e_87).trans rfl
theorem f_Mo_ones_17 : fx n_Mo_ones 17 = some (.istore_n 1, 18, []) := (congrArg (fun t => fxl t 17) e_87).trans rfl
theorem f_Mo_ones_18 : fx n_Mo_ones 18 = some (.iinc 2 1, 21, []) := (congrArg (fun t => fxl t 18) e_87).trans rfl
theorem f_Mo_ones_21 : fx n_Mo_ones 21 = some (.goto (-17), 24, [4]) := (congrArg (fun t => fxl t 21) e_87).trans rfl
theorem f_Mo_ones_24 : fx n_Mo_ones 24 = some (.iload_n 1, 25, []) := (congrArg (fun t => fxl t 24) e_87).trans rfl
theorem f_Mo_ones_25 : fx n_Mo_ones 25 = some (.ireturn, 26, []) := (congrArg (fun t => fxl t 25) e_87).trans rfl
theorem f_Mo_letter_0 : fx n_Mo_letter 0 = some (.iload_n 1, 1, []) := (congrArg (fun t => fxl t 0) e_88).trans rfl
theorem f_Mo_letter_1 : fx n_Mo_letter 1 = some (.i2l, 2, []) := (congrArg (fun t => fxl t 1) e_88).trans rfl
theorem f_Mo_letter_2 : fx n_Mo_letter 2 = some (.lconst 1, 3, []) := (congrArg (fun t => fxl t 2) e_88).trans rfl
theorem f_Mo_letter_3 : fx n_Mo_letter 3 = some (.ldc2_w 71, 6, []) := (congrArg (fun t => fxl t 3) e_88).trans rfl
theorem f_Mo_letter_6 : fx n_Mo_letter 6 = some (.invokestatic 73, 9, [85, 3]) := (congrArg (fun t => fxl t 6) e_88).trans rfl
theorem f_Mo_letter_9 : fx n_Mo_letter 9 = some (.ifCond .ne 6, 12, [15]) := (congrArg (fun t => fxl t 9) e_88).trans rfl
theorem f_Mo_letter_12 : fx n_Mo_letter 12 = some (.bipush (-102), 14, []) := (congrArg (fun t => fxl t 12) e_88).trans rfl
theorem f_Mo_letter_14 : fx n_Mo_letter 14 = some (.ireturn, 15, []) := (congrArg (fun t => fxl t 14) e_88).trans rfl
theorem f_Mo_letter_15 : fx n_Mo_letter 15 = some (.aload_n 0, 16, []) := (congrArg (fun t => fxl t 15) e_88).trans rfl
theorem f_Mo_letter_16 : fx n_Mo_letter 16 = some (.getfield 77, 19, [7, 1]) := (congrArg (fun t => fxl t 16) e_88).trans rfl
theorem f_Mo_letter_19 : fx n_Mo_letter 19 = some (.bipush 42, 21, []) := (congrArg (fun t => fxl t 19) e_88).trans rfl
theorem f_Mo_letter_21 : fx n_Mo_letter 21 = some (.if_icmp .ne 6, 24, [27]) := (congrArg (fun t => fxl t 21) e_88).trans rfl
theorem f_Mo_letter_24 : fx n_Mo_letter 24 = some (.bipush (-104), 26, []) := (congrArg (fun t => fxl t 24) e_88).trans rfl
theorem f_Mo_letter_26 : fx n_Mo_letter 26 = some (.ireturn, 27, []) := (congrArg (fun t => fxl t 26) e_88).trans rfl
theorem f_Mo_letter_27 : fx n_Mo_letter 27 = some (.aload_n 0, 28, []) := (congrArg (fun t => fxl t 27) e_88).trans rfl
theorem f_Mo_letter_28 : fx n_Mo_letter 28 = some (.getfield 7, 31, [7, 0]) := (congrArg (fun t => fxl t 28) e_88).trans rfl
theorem f_Mo_letter_31 : fx n_Mo_letter 31 = some (.aload_n 0, 32, []) := (congrArg (fun t => fxl t 31) e_88).trans rfl
theorem f_Mo_letter_32 : fx n_Mo_letter 32 = some (.getfield 77, 35, [7, 1]) := (congrArg (fun t => fxl t 32) e_88).trans rfl
theorem f_Mo_letter_35 : fx n_Mo_letter 35 = some (.iload_n 1, 36, []) := (congrArg (fun t => fxl t 35) e_88).trans rfl
theorem f_Mo_letter_36 : fx n_Mo_letter 36 = some (.iastore, 37, []) := (congrArg (fun t => fxl t 36) e_88).trans rfl
theorem f_Mo_letter_37 : fx n_Mo_letter 37 = some (.aload_n 0, 38, []) := (congrArg (fun t => fxl t 37) e_88).trans rfl
theorem f_Mo_letter_38 : fx n_Mo_letter 38 = some (.dup, 39, []) := (congrArg (fun t => fxl t 38) e_88).trans rfl
theorem f_Mo_letter_39 : fx n_Mo_letter 39 = some (.getfield 77, 42, [7, 1]) := (congrArg (fun t => fxl t 39) e_88).trans rfl
theorem f_Mo_letter_42 : fx n_Mo_letter 42 = some (.iconst 1, 43, []) := (congrArg (fun t => fxl t 42) e_88).trans rfl
theorem f_Mo_letter_43 : fx n_Mo_letter 43 = some (.iadd, 44, []) := (congrArg (fun t => fxl t 43) e_88).trans rfl
theorem f_Mo_letter_44 : fx n_Mo_letter 44 = some (.putfield 77, 47, [7, 1]) := (congrArg (fun t => fxl t 44) e_88).trans rfl
theorem f_Mo_letter_47 : fx n_Mo_letter 47 = some (.aload_n 0, 48, []) := (congrArg (fun t => fxl t 47) e_88).trans rfl
theorem f_Mo_letter_48 : fx n_Mo_letter 48 = some (.getfield 77, 51, [7, 1]) := (congrArg (fun t => fxl t 48) e_88).trans rfl
theorem f_Mo_letter_51 : fx n_Mo_letter 51 = some (.ireturn, 52, []) := (congrArg (fun t => fxl t 51) e_88).trans rfl
theorem f_Mo_blank_0 : fx n_Mo_blank 0 = some (.aload_n 0, 1, []) := (congrArg (fun t => fxl t 0) e_89).trans rfl
theorem f_Mo_blank_1 : fx n_Mo_blank 1 = some (.getfield 77, 4, [7, 1]) := (congrArg (fun t => fxl t 1) e_89).trans rfl
theorem f_Mo_blank_4 : fx n_Mo_blank 4 = some (.istore_n 1, 5, []) := (congrArg (fun t => fxl t 4) e_89).trans rfl
theorem f_Mo_blank_5 : fx n_Mo_blank 5 = some (.aload_n 0, 6, []) := (congrArg (fun t => fxl t 5) e_89).trans rfl
theorem f_Mo_blank_6 : fx n_Mo_blank 6 = some (.iconst 0, 7, []) := (congrArg (fun t => fxl t 6) e_89).trans rfl
theorem f_Mo_blank_7 : fx n_Mo_blank 7 = some (.putfield 77, 10, [7, 1]) := (congrArg (fun t => fxl t 7) e_89).trans rfl
theorem f_Mo_blank_10 : fx n_Mo_blank 10 = some (.iload_n 1, 11, []) := (congrArg (fun t => fxl t 10) e_89).trans rfl
theorem f_Mo_blank_11 : fx n_Mo_blank 11 = some (.ireturn, 12, []) := (congrArg (fun t => fxl t 11) e_89).trans rfl
theorem f_Mo_kindBy_0 : fx n_Mo_kindBy 0 = some (.iload_n 0, 1, []) := (congrArg (fun t => fxl t 0) e_90).trans rfl
theorem f_Mo_kindBy_1 : fx n_Mo_kindBy 1 = some (.lookupswitch 61 #[(98, 53), (109, 55), (112, 59), (114, 51), (119, 57)], 52, [62, 54, 56, 60, 52, 58]) := (congrArg (fun t => fxl t 1) e_90).trans rfl
theorem f_Mo_kindBy_52 : fx n_Mo_kindBy 52 = some (.iconst 0, 53, []) := (congrArg (fun t => fxl t 52) e_90).trans rfl
theorem f_Mo_kindBy_53 : fx n_Mo_kindBy 53 = some (.ireturn, 54, []) := (congrArg (fun t => fxl t 53) e_90).trans rfl
theorem f_Mo_kindBy_54 : fx n_Mo_kindBy 54 = some (.iconst 1, 55, []) := (congrArg (fun t => fxl t 54) e_90).trans rfl
theorem f_Mo_kindBy_55 : fx n_Mo_kindBy 55 = some (.ireturn, 56, []) := (congrArg (fun t => fxl t 55) e_90).trans rfl
theorem f_Mo_kindBy_56 : fx n_Mo_kindBy 56 = some (.iconst 2, 57, []) := (congrArg (fun t => fxl t 56) e_90).trans rfl
theorem f_Mo_kindBy_57 : fx n_Mo_kindBy 57 = some (.ireturn, 58, []) := (congrArg (fun t => fxl t 57) e_90).trans rfl
theorem f_Mo_kindBy_58 : fx n_Mo_kindBy 58 = some (.iconst 3, 59, []) := (congrArg (fun t => fxl t 58) e_90).trans rfl
theorem f_Mo_kindBy_59 : fx n_Mo_kindBy 59 = some (.ireturn, 60, []) := (congrArg (fun t => fxl t 59) e_90).trans rfl
theorem f_Mo_kindBy_60 : fx n_Mo_kindBy 60 = some (.iconst 4, 61, []) := (congrArg (fun t => fxl t 60) e_90).trans rfl
theorem f_Mo_kindBy_61 : fx n_Mo_kindBy 61 = some (.ireturn, 62, []) := (congrArg (fun t => fxl t 61) e_90).trans rfl
theorem f_Mo_kindBy_62 : fx n_Mo_kindBy 62 = some (.iconst (-1), 63, []) := (congrArg (fun t => fxl t 62) e_90).trans rfl
theorem f_Mo_kindBy_63 : fx n_Mo_kindBy 63 = some (.ireturn, 64, []) := (congrArg (fun t => fxl t 63) e_90).trans rfl
theorem f_Mo_isReachLetter_0 : fx n_Mo_isReachLetter 0 = some (.aload_n 0, 1, []) := (congrArg (fun t => fxl t 0) e_91).trans rfl
theorem f_Mo_isReachLetter_1 : fx n_Mo_isReachLetter 1 = some (.getfield 7, 4, [7, 0]) := (congrArg (fun t => fxl t 1) e_91).trans rfl
theorem f_Mo_isReachLetter_4 : fx n_Mo_isReachLetter 4 = some (.iload_n 1, 5, []) := (congrArg (fun t => fxl t 4) e_91).trans rfl
theorem f_Mo_isReachLetter_5 : fx n_Mo_isReachLetter 5 = some (.iaload, 6, []) := (congrArg (fun t => fxl t 5) e_91).trans rfl
theorem f_Mo_isReachLetter_6 : fx n_Mo_isReachLetter 6 = some (.istore_n 2, 7, []) := (congrArg (fun t => fxl t 6) e_91).trans rfl
theorem f_Mo_isReachLetter_7 : fx n_Mo_isReachLetter 7 = some (.iload_n 1, 8, []) := (congrArg (fun t => fxl t 7) e_91).trans rfl
theorem f_Mo_isReachLetter_8 : fx n_Mo_isReachLetter 8 = some (.iconst 5, 9, []) := (congrArg (fun t => fxl t 8) e_91).trans rfl
theorem f_Mo_isReachLetter_9 : fx n_Mo_isReachLetter 9 = some (.irem, 10, []) := (congrArg (fun t => fxl t 9) e_91).trans rfl
theorem f_Mo_isReachLetter_10 : fx n_Mo_isReachLetter 10 = some (.tableswitch 100 0 3 #[30, 44, 56, 68], 40, [110, 40, 54, 66, 78]) := (congrArg (fun t => fxl t 10) e_91).trans rfl
theorem f_Mo_isReachLetter_40 : fx n_Mo_isReachLetter 40 = some (.iload_n 2, 41, []) := (congrArg (fun t => fxl t 40) e_91).trans rfl
theorem f_Mo_isReachLetter_41 : fx n_Mo_isReachLetter 41 = some (.invokestatic 80, 44, [90, 1]) := (congrArg (fun t => fxl t 41) e_91).trans rfl
theorem f_Mo_isReachLetter_44 : fx n_Mo_isReachLetter 44 = some (.iconst (-1), 45, []) := (congrArg (fun t => fxl t 44) e_91).trans rfl
theorem f_Mo_isReachLetter_45 : fx n_Mo_isReachLetter 45 = some (.if_icmp .eq 7, 48, [52]) := (congrArg (fun t => fxl t 45) e_91).trans rfl
theorem f_Mo_isReachLetter_48 : fx n_Mo_isReachLetter 48 = some (.iconst 1, 49, []) := (congrArg (fun t => fxl t 48) e_91).trans rfl
theorem f_Mo_isReachLetter_49 : fx n_Mo_isReachLetter 49 = some (.goto 4, 52, [53]) := (congrArg (fun t => fxl t 49) e_91).trans rfl
theorem f_Mo_isReachLetter_52 : fx n_Mo_isReachLetter 52 = some (.iconst 0, 53, []) := (congrArg (fun t => fxl t 52) e_91).trans rfl
theorem f_Mo_isReachLetter_53 : fx n_Mo_isReachLetter 53 = some (.ireturn, 54, []) := (congrArg (fun t => fxl t 53) e_91).trans rfl
theorem f_Mo_isReachLetter_54 : fx n_Mo_isReachLetter 54 = some (.iload_n 2, 55, []) := (congrArg (fun t => fxl t 54) e_91).trans rfl
theorem f_Mo_isReachLetter_55 : fx n_Mo_isReachLetter 55 = some (.i2l, 56, []) := (congrArg (fun t => fxl t 55) e_91).trans rfl
theorem f_Mo_isReachLetter_56 : fx n_Mo_isReachLetter 56 = some (.ldc2_w 84, 59, []) := (congrArg (fun t => fxl t 56) e_91).trans rfl
theorem f_Mo_isReachLetter_59 : fx n_Mo_isReachLetter 59 = some (.ldc2_w 86, 62, []) := (congrArg (fun t => fxl t 59) e_91).trans rfl
theorem f_Mo_isReachLetter_62 : fx n_Mo_isReachLetter 62 = some (.invokestatic 73, 65, [85, 3]) := (congrArg (fun t => fxl t 62) e_91).trans rfl
theorem f_Mo_isReachLetter_65 : fx n_Mo_isReachLetter 65 = some (.ireturn, 66, []) := (congrArg (fun t => fxl t 65) e_91).trans rfl
theorem f_Mo_isReachLetter_66 : fx n_Mo_isReachLetter 66 = some (.iload_n 2, 67, []) := (congrArg (fun t => fxl t 66) e_91).trans rfl
theorem f_Mo_isReachLetter_67 : fx n_Mo_isReachLetter 67 = some (.i2l, 68, []) := (congrArg (fun t => fxl t 67) e_91).trans rfl
theorem f_Mo_isReachLetter_68 : fx n_Mo_isReachLetter 68 = some (.ldc2_w 88, 71, []) := (congrArg (fun t => fxl t 68) e_91).trans rfl
theorem f_Mo_isReachLetter_71 : fx n_Mo_isReachLetter 71 = some (.ldc2_w 86, 74, []) := (congrArg (fun t => fxl t 71) e_91).trans rfl
theorem f_Mo_isReachLetter_74 : fx n_Mo_isReachLetter 74 = some (.invokestatic 73, 77, [85, 3]) := (congrArg (fun t => fxl t 74) e_91).trans rfl
theorem f_Mo_isReachLetter_77 : fx n_Mo_isReachLetter 77 = some (.ireturn, 78, []) := (congrArg (fun t => fxl t 77) e_91).trans rfl
theorem f_Mo_isReachLetter_78 : fx n_Mo_isReachLetter 78 = some (.iload_n 2, 79, []) := (congrArg (fun t => fxl t 78) e_91).trans rfl
theorem f_Mo_isReachLetter_79 : fx n_Mo_isReachLetter 79 = some (.bipush 45, 81, []) := (congrArg (fun t => fxl t 79) e_91).trans rfl
theorem f_Mo_isReachLetter_81 : fx n_Mo_isReachLetter 81 = some (.if_icmp .eq 23, 84, [104]) := (congrArg (fun t => fxl t 81) e_91).trans rfl
theorem f_Mo_isReachLetter_84 : fx n_Mo_isReachLetter 84 = some (.iload_n 2, 85, []) := (congrArg (fun t => fxl t 84) e_91).trans rfl
theorem f_Mo_isReachLetter_85 : fx n_Mo_isReachLetter 85 = some (.i2l, 86, []) := (congrArg (fun t => fxl t 85) e_91).trans rfl
theorem f_Mo_isReachLetter_86 : fx n_Mo_isReachLetter 86 = some (.ldc2_w 88, 89, []) := (congrArg (fun t => fxl t 86) e_91).trans rfl
theorem f_Mo_isReachLetter_89 : fx n_Mo_isReachLetter 89 = some (.bipush 48, 91, []) := (congrArg (fun t => fxl t 89) e_91).trans rfl
theorem f_Mo_isReachLetter_91 : fx n_Mo_isReachLetter 91 = some (.iload_n 1, 92, []) := (congrArg (fun t => fxl t 91) e_91).trans rfl
theorem f_Mo_isReachLetter_92 : fx n_Mo_isReachLetter 92 = some (.iconst 5, 93, []) := (congrArg (fun t => fxl t 92) e_91).trans rfl
theorem f_Mo_isReachLetter_93 : fx n_Mo_isReachLetter 93 = some (.idiv, 94, []) := (congrArg (fun t => fxl t 93) e_91).trans rfl
theorem f_Mo_isReachLetter_94 : fx n_Mo_isReachLetter 94 = some (.iadd, 95, []) := (congrArg (fun t => fxl t 94) e_91).trans rfl
theorem f_Mo_isReachLetter_95 : fx n_Mo_isReachLetter 95 = some (.iconst 1, 96, []) := (congrArg (fun t => fxl t 95) e_91).trans rfl
theorem f_Mo_isReachLetter_96 : fx n_Mo_isReachLetter 96 = some (.isub, 97, []) := (congrArg (fun t => fxl t 96) e_91).trans rfl
theorem f_Mo_isReachLetter_97 : fx n_Mo_isReachLetter 97 = some (.i2l, 98, []) := (congrArg (fun t => fxl t 97) e_91).trans rfl
theorem f_Mo_isReachLetter_98 : fx n_Mo_isReachLetter 98 = some (.invokestatic 73, 101, [85, 3]) := (congrArg (fun t => fxl t 98) e_91).trans rfl
theorem f_Mo_isReachLetter_101 : fx n_Mo_isReachLetter 101 = some (.ifCond .eq 7, 104, [108]) := (congrArg (fun t => fxl t 101) e_91).trans rfl
theorem f_Mo_isReachLetter_104 : fx n_Mo_isReachLetter 104 = some (.iconst 1, 105, []) := (congrArg (fun t => fxl t 104) e_91).trans rfl
theorem f_Mo_isReachLetter_105 : fx n_Mo_isReachLetter 105 = some (.goto 4, 108, [109]) := (congrArg (fun t => fxl t 105) e_91).trans rfl
theorem f_Mo_isReachLetter_108 : fx n_Mo_isReachLetter 108 = some (.iconst 0, 109, []) := (congrArg (fun t => fxl t 108) e_91).trans rfl
theorem f_Mo_isReachLetter_109 : fx n_Mo_isReachLetter 109 = some (.ireturn, 110, []) := (congrArg (fun t => fxl t 109) e_91).trans rfl
theorem f_Mo_isReachLetter_110 : fx n_Mo_isReachLetter 110 = some (.iload_n 2, 111, []) := (congrArg (fun t => fxl t 110) e_91).trans rfl
theorem f_Mo_isReachLetter_111 : fx n_Mo_isReachLetter 111 = some (.bipush 59, 113, []) := (congrArg (fun t => fxl t 111) e_91).trans rfl
theorem f_Mo_isReachLetter_113 : fx n_Mo_isReachLetter 113 = some (.if_icmp .ne 15, 116, [128]) := (congrArg (fun t => fxl t 113) e_91).trans rfl
theorem f_Mo_isReachLetter_116 : fx n_Mo_isReachLetter 116 = some (.iload_n 1, 117, []) := (congrArg (fun t => fxl t 116) e_91).trans rfl
theorem f_Mo_isReachLetter_117 : fx n_Mo_isReachLetter 117 = some (.iconst 5, 118, []) := (congrArg (fun t => fxl t 117) e_91).trans rfl
theorem f_Mo_isReachLetter_118 : fx n_Mo_isReachLetter 118 = some (.if_icmp .le 10, 121, [128]) := (congrArg (fun t => fxl t 118) e_91).trans rfl
theorem f_Mo_isReachLetter_121 : fx n_Mo_isReachLetter 121 = some (.aload_n 0, 122, []) := (congrArg (fun t => fxl t 121) e_91).trans rfl
theorem f_Mo_isReachLetter_122 : fx n_Mo_isReachLetter 122 = some (.iload_n 1, 123, []) := (congrArg (fun t => fxl t 122) e_91).trans rfl
theorem f_Mo_isReachLetter_123 : fx n_Mo_isReachLetter 123 = some (.putfield 90, 126, [7, 2]) := (congrArg (fun t => fxl t 123) e_91).trans rfl
theorem f_Mo_isReachLetter_126 : fx n_Mo_isReachLetter 126 = some (.iconst 1, 127, []) := (congrArg (fun t => fxl t 126) e_91).trans rfl
theorem f_Mo_isReachLetter_127 : fx n_Mo_isReachLetter 127 = some (.ireturn, 128, []) := (congrArg (fun t => fxl t 127) e_91).trans rfl
theorem f_Mo_isReachLetter_128 : fx n_Mo_isReachLetter 128 = some (.iload_n 2, 129, []) := (congrArg (fun t => fxl t 128) e_91).trans rfl
theorem f_Mo_isReachLetter_129 : fx n_Mo_isReachLetter 129 = some (.bipush 44, 131, []) := (congrArg (fun t => fxl t 129) e_91).trans rfl
theorem f_Mo_isReachLetter_131 : fx n_Mo_isReachLetter 131 = some (.if_icmp .ne 13, 134, [144]) := (congrArg (fun t => fxl t 131) e_91).trans rfl
theorem f_Mo_isReachLetter_134 : fx n_Mo_isReachLetter 134 = some (.iload_n 1, 135, []) := (congrArg (fun t => fxl t 134) e_91).trans rfl
theorem f_Mo_isReachLetter_135 : fx n_Mo_isReachLetter 135 = some (.bipush 34, 137, []) := (congrArg (fun t => fxl t 135) e_91).trans rfl
theorem f_Mo_isReachLetter_137 : fx n_Mo_isReachLetter 137 = some (.if_icmp .ge 7, 140, [144]) := (congrArg (fun t => fxl t 137) e_91).trans rfl
theorem f_Mo_isReachLetter_140 : fx n_Mo_isReachLetter 140 = some (.iconst 1, 141, []) := (congrArg (fun t => fxl t 140) e_91).trans rfl
theorem f_Mo_isReachLetter_141 : fx n_Mo_isReachLetter 141 = some (.goto 4, 144, [145]) := (congrArg (fun t => fxl t 141) e_91).trans rfl
theorem f_Mo_isReachLetter_144 : fx n_Mo_isReachLetter 144 = some (.iconst 0, 145, []) := (congrArg (fun t => fxl t 144) e_91).trans rfl
theorem f_Mo_isReachLetter_145 : fx n_Mo_isReachLetter 145 = some (.ireturn, 146, []) := (congrArg (fun t => fxl t 145) e_91).trans rfl
theorem f_Mo_isGood_0 : fx n_Mo_isGood 0 = some (.aload_n 0, 1, []) := (congrArg (fun t => fxl t 0) e_92).trans rfl
theorem f_Mo_isGood_1 : fx n_Mo_isGood 1 = some (.getfield 90, 4, [7, 2]) := (congrArg (fun t => fxl t 1) e_92).trans rfl
theorem f_Mo_isGood_4 : fx n_Mo_isGood 4 = some (.ifCond .ne 9, 7, [13]) := (congrArg (fun t => fxl t 4) e_92).trans rfl
theorem f_Mo_isGood_7 : fx n_Mo_isGood 7 = some (.aload_n 0, 8, []) := (congrArg (fun t => fxl t 7) e_92).trans rfl
theorem f_Mo_isGood_8 : fx n_Mo_isGood 8 = some (.iload_n 1, 9, []) := (congrArg (fun t => fxl t 8) e_92).trans rfl
theorem f_Mo_isGood_9 : fx n_Mo_isGood 9 = some (.invokevirtual 93, 12, [91, 1]) := (congrArg (fun t => fxl t 9) e_92).trans rfl
theorem f_Mo_isGood_12 : fx n_Mo_isGood 12 = some (.ireturn, 13, []) := (congrArg (fun t => fxl t 12) e_92).trans rfl
theorem f_Mo_isGood_13 : fx n_Mo_isGood 13 = some (.iload_n 1, 14, []) := (congrArg (fun t => fxl t 13) e_92).trans rfl
theorem f_Mo_isGood_14 : fx n_Mo_isGood 14 = some (.aload_n 0, 15, []) := (congrArg (fun t => fxl t 14) e_92).trans rfl
theorem f_Mo_isGood_15 : fx n_Mo_isGood 15 = some (.getfield 90, 18, [7, 2]) := (congrArg (fun t => fxl t 15) e_92).trans rfl
theorem f_Mo_isGood_18 : fx n_Mo_isGood 18 = some (.isub, 19, []) := (congrArg (fun t => fxl t 18) e_92).trans rfl
theorem f_Mo_isGood_19 : fx n_Mo_isGood 19 = some (.iconst 1, 20, []) := (congrArg (fun t => fxl t 19) e_92).trans rfl
theorem f_Mo_isGood_20 : fx n_Mo_isGood 20 = some (.isub, 21, []) := (congrArg (fun t => fxl t 20) e_92).trans rfl
theorem f_Mo_isGood_21 : fx n_Mo_isGood 21 = some (.istore_n 2, 22, []) := (congrArg (fun t => fxl t 21) e_92).trans rfl
theorem f_Mo_isGood_22 : fx n_Mo_isGood 22 = some (.iload_n 2, 23, []) := (congrArg (fun t => fxl t 22) e_92).trans rfl
theorem f_Mo_isGood_23 : fx n_Mo_isGood 23 = some (.iconst 2, 24, []) := (congrArg (fun t => fxl t 23) e_92).trans rfl
theorem f_Mo_isGood_24 : fx n_Mo_isGood 24 = some (.irem, 25, []) := (congrArg (fun t => fxl t 24) e_92).trans rfl
theorem f_Mo_isGood_25 : fx n_Mo_isGood 25 = some (.ifCond .ne 33, 28, [58]) := (congrArg (fun t => fxl t 25) e_92).trans rfl
theorem f_Mo_isGood_28 : fx n_Mo_isGood 28 = some (.aload_n 0, 29, []) := (congrArg (fun t => fxl t 28) e_92).trans rfl
theorem f_Mo_isGood_29 : fx n_Mo_isGood 29 = some (.getfield 7, 32, [7, 0]) := (congrArg (fun t => fxl t 29) e_92).trans rfl
theorem f_Mo_isGood_32 : fx n_Mo_isGood 32 = some (.iload_n 1, 33, []) := (congrArg (fun t => fxl t 32) e_92).trans rfl
theorem f_Mo_isGood_33 : fx n_Mo_isGood 33 = some (.iaload, 34, []) := (congrArg (fun t => fxl t 33) e_92).trans rfl
theorem f_Mo_isGood_34 : fx n_Mo_isGood 34 = some (.i2l, 35, []) := (congrArg (fun t => fxl t 34) e_92).trans rfl
theorem f_Mo_isGood_35 : fx n_Mo_isGood 35 = some (.ldc2_w 88, 38, []) := (congrArg (fun t => fxl t 35) e_92).trans rfl
theorem f_Mo_isGood_38 : fx n_Mo_isGood 38 = some (.bipush 48, 40, []) := (congrArg (fun t => fxl t 38) e_92).trans rfl
theorem f_Mo_isGood_40 : fx n_Mo_isGood 40 = some (.aload_n 0, 41, []) := (congrArg (fun t => fxl t 40) e_92).trans rfl
theorem f_Mo_isGood_41 : fx n_Mo_isGood 41 = some (.getfield 90, 44, [7, 2]) := (congrArg (fun t => fxl t 41) e_92).trans rfl
theorem f_Mo_isGood_44 : fx n_Mo_isGood 44 = some (.iconst 1, 45, []) := (congrArg (fun t => fxl t 44) e_92).trans rfl
theorem f_Mo_isGood_45 : fx n_Mo_isGood 45 = some (.iadd, 46, []) := (congrArg (fun t => fxl t 45) e_92).trans rfl
theorem f_Mo_isGood_46 : fx n_Mo_isGood 46 = some (.iconst 5, 47, []) := (congrArg (fun t => fxl t 46) e_92).trans rfl
theorem f_Mo_isGood_47 : fx n_Mo_isGood 47 = some (.idiv, 48, []) := (congrArg (fun t => fxl t 47) e_92).trans rfl
theorem f_Mo_isGood_48 : fx n_Mo_isGood 48 = some (.iadd, 49, []) := (congrArg (fun t => fxl t 48) e_92).trans rfl
theorem f_Mo_isGood_49 : fx n_Mo_isGood 49 = some (.iconst 1, 50, []) := (congrArg (fun t => fxl t 49) e_92).trans rfl
theorem f_Mo_isGood_50 : fx n_Mo_isGood 50 = some (.isub, 51, []) := (congrArg (fun t => fxl t 50) e_92).trans rfl
theorem f_Mo_isGood_51 : fx n_Mo_isGood 51 = some (.i2l, 52, []) := (congrArg (fun t => fxl t 51) e_92).trans rfl
theorem f_Mo_isGood_52 : fx n_Mo_isGood 52 = some (.invokestatic 73, 55, [85, 3]) := (congrArg (fun t => fxl t 52) e_92).trans rfl
theorem f_Mo_isGood_55 : fx n_Mo_isGood 55 = some (.goto 24, 58, [79]) := (congrArg (fun t => fxl t 55) e_92).trans rfl
theorem f_Mo_isGood_58 : fx n_Mo_isGood 58 = some (.aload_n 0, 59, []) := (congrArg (fun t => fxl t 58) e_92).trans rfl
theorem f_Mo_isGood_59 : fx n_Mo_isGood 59 = some (.getfield 7, 62, [7, 0]) := (congrArg (fun t => fxl t 59) e_92).trans rfl
theorem f_Mo_isGood_62 : fx n_Mo_isGood 62 = some (.iload_n 1, 63, []) := (congrArg (fun t => fxl t 62) e_92).trans rfl
theorem f_Mo_isGood_63 : fx n_Mo_isGood 63 = some (.iaload, 64, []) := (congrArg (fun t => fxl t 63) e_92).trans rfl
theorem f_Mo_isGood_64 : fx n_Mo_isGood 64 = some (.bipush 44, 66, []) := (congrArg (fun t => fxl t 64) e_92).trans rfl
theorem f_Mo_isGood_66 : fx n_Mo_isGood 66 = some (.if_icmp .ne 12, 69, [78]) := (congrArg (fun t => fxl t 66) e_92).trans rfl
theorem f_Mo_isGood_69 : fx n_Mo_isGood 69 = some (.iload_n 2, 70, []) := (congrArg (fun t => fxl t 69) e_92).trans rfl
theorem f_Mo_isGood_70 : fx n_Mo_isGood 70 = some (.iconst 5, 71, []) := (congrArg (fun t => fxl t 70) e_92).trans rfl
theorem f_Mo_isGood_71 : fx n_Mo_isGood 71 = some (.if_icmp .ge 7, 74, [78]) := (congrArg (fun t => fxl t 71) e_92).trans rfl
theorem f_Mo_isGood_74 : fx n_Mo_isGood 74 = some (.iconst 1, 75, []) := (congrArg (fun t => fxl t 74) e_92).trans rfl
theorem f_Mo_isGood_75 : fx n_Mo_isGood 75 = some (.goto 4, 78, [79]) := (congrArg (fun t => fxl t 75) e_92).trans rfl
theorem f_Mo_isGood_78 : fx n_Mo_isGood 78 = some (.iconst 0, 79, []) := (congrArg (fun t => fxl t 78) e_92).trans rfl
theorem f_Mo_isGood_79 : fx n_Mo_isGood 79 = some (.ireturn, 80, []) := (congrArg (fun t => fxl t 79) e_92).trans rfl
theorem f_Mo_faultOf_0 : fx n_Mo_faultOf 0 = some (.aload_n 0, 1, []) := (congrArg (fun t => fxl t 0) e_93).trans rfl
theorem f_Mo_faultOf_1 : fx n_Mo_faultOf 1 = some (.iconst 0, 2, []) := (congrArg (fun t => fxl t 1) e_93).trans rfl
theorem f_Mo_faultOf_2 : fx n_Mo_faultOf 2 = some (.putfield 90, 5, [7, 2]) := (congrArg (fun t => fxl t 2) e_93).trans rfl
theorem f_Mo_faultOf_5 : fx n_Mo_faultOf 5 = some (.iconst 0, 6, []) := (congrArg (fun t => fxl t 5) e_93).trans rfl
theorem f_Mo_faultOf_6 : fx n_Mo_faultOf 6 = some (.istore_n 1, 7, []) := (congrArg (fun t => fxl t 6) e_93).trans rfl
theorem f_Mo_faultOf_7 : fx n_Mo_faultOf 7 = some (.iload_n 1, 8, []) := (congrArg (fun t => fxl t 7) e_93).trans rfl
theorem f_Mo_faultOf_8 : fx n_Mo_faultOf 8 = some (.aload_n 0, 9, []) := (congrArg (fun t => fxl t 8) e_93).trans rfl
theorem f_Mo_faultOf_9 : fx n_Mo_faultOf 9 = some (.getfield 77, 12, [7, 1]) := (congrArg (fun t => fxl t 9) e_93).trans rfl
theorem f_Mo_faultOf_12 : fx n_Mo_faultOf 12 = some (.if_icmp .ge 17, 15, [29]) := (congrArg (fun t => fxl t 12) e_93).trans rfl
theorem f_Mo_faultOf_15 : fx n_Mo_faultOf 15 = some (.aload_n 0, 16, []) := (congrArg (fun t => fxl t 15) e_93).trans rfl
theorem f_Mo_faultOf_16 : fx n_Mo_faultOf 16 = some (.iload_n 1, 17, []) := (congrArg (fun t => fxl t 16) e_93).trans rfl
theorem f_Mo_faultOf_17 : fx n_Mo_faultOf 17 = some (.invokevirtual 97, 20, [92, 1]) := (congrArg (fun t => fxl t 17) e_93).trans rfl
theorem f_Mo_faultOf_20 : fx n_Mo_faultOf 20 = some (.ifCond .eq 9, 23, [29]) := (congrArg (fun t => fxl t 20) e_93).trans rfl
theorem f_Mo_faultOf_23 : fx n_Mo_faultOf 23 = some (.iinc 1 1, 26, []) := (congrArg (fun t => fxl t 23) e_93).trans rfl
theorem f_Mo_faultOf_26 : fx n_Mo_faultOf 26 = some (.goto (-19), 29, [7]) := (congrArg (fun t => fxl t 26) e_93).trans rfl
theorem f_Mo_faultOf_29 : fx n_Mo_faultOf 29 = some (.iload_n 1, 30, []) := (congrArg (fun t => fxl t 29) e_93).trans rfl
theorem f_Mo_faultOf_30 : fx n_Mo_faultOf 30 = some (.ireturn, 31, []) := (congrArg (fun t => fxl t 30) e_93).trans rfl
theorem f_Mo_fault_0 : fx n_Mo_fault 0 = some (.aload_n 0, 1, []) := (congrArg (fun t => fxl t 0) e_94).trans rfl
theorem f_Mo_fault_1 : fx n_Mo_fault 1 = some (.invokevirtual 100, 4, [93, 0]) := (congrArg (fun t => fxl t 1) e_94).trans rfl
theorem f_Mo_fault_4 : fx n_Mo_fault 4 = some (.ireturn, 5, []) := (congrArg (fun t => fxl t 4) e_94).trans rfl
theorem f_Mo_river_0 : fx n_Mo_river 0 = some (.aload_n 0, 1, []) := (congrArg (fun t => fxl t 0) e_95).trans rfl
theorem f_Mo_river_1 : fx n_Mo_river 1 = some (.invokevirtual 100, 4, [93, 0]) := (congrArg (fun t => fxl t 1) e_95).trans rfl
theorem f_Mo_river_4 : fx n_Mo_river 4 = some (.aload_n 0, 5, []) := (congrArg (fun t => fxl t 4) e_95).trans rfl
theorem f_Mo_river_5 : fx n_Mo_river 5 = some (.getfield 77, 8, [7, 1]) := (congrArg (fun t => fxl t 5) e_95).trans rfl
theorem f_Mo_river_8 : fx n_Mo_river 8 = some (.if_icmp .lt 24, 11, [32]) := (congrArg (fun t => fxl t 8) e_95).trans rfl
theorem f_Mo_river_11 : fx n_Mo_river 11 = some (.aload_n 0, 12, []) := (congrArg (fun t => fxl t 11) e_95).trans rfl
theorem f_Mo_river_12 : fx n_Mo_river 12 = some (.getfield 90, 15, [7, 2]) := (congrArg (fun t => fxl t 12) e_95).trans rfl
theorem f_Mo_river_15 : fx n_Mo_river 15 = some (.ifCond .eq 17, 18, [32]) := (congrArg (fun t => fxl t 15) e_95).trans rfl
theorem f_Mo_river_18 : fx n_Mo_river 18 = some (.aload_n 0, 19, []) := (congrArg (fun t => fxl t 18) e_95).trans rfl
theorem f_Mo_river_19 : fx n_Mo_river 19 = some (.getfield 77, 22, [7, 1]) := (congrArg (fun t => fxl t 19) e_95).trans rfl
theorem f_Mo_river_22 : fx n_Mo_river 22 = some (.aload_n 0, 23, []) := (congrArg (fun t => fxl t 22) e_95).trans rfl
theorem f_Mo_river_23 : fx n_Mo_river 23 = some (.getfield 90, 26, [7, 2]) := (congrArg (fun t => fxl t 23) e_95).trans rfl
theorem f_Mo_river_26 : fx n_Mo_river 26 = some (.isub, 27, []) := (congrArg (fun t => fxl t 26) e_95).trans rfl
theorem f_Mo_river_27 : fx n_Mo_river 27 = some (.iconst 2, 28, []) := (congrArg (fun t => fxl t 27) e_95).trans rfl
theorem f_Mo_river_28 : fx n_Mo_river 28 = some (.irem, 29, []) := (congrArg (fun t => fxl t 28) e_95).trans rfl
theorem f_Mo_river_29 : fx n_Mo_river 29 = some (.ifCond .eq 6, 32, [35]) := (congrArg (fun t => fxl t 29) e_95).trans rfl
theorem f_Mo_river_32 : fx n_Mo_river 32 = some (.bipush (-103), 34, []) := (congrArg (fun t => fxl t 32) e_95).trans rfl
theorem f_Mo_river_34 : fx n_Mo_river 34 = some (.ireturn, 35, []) := (congrArg (fun t => fxl t 34) e_95).trans rfl
theorem f_Mo_river_35 : fx n_Mo_river 35 = some (.aload_n 0, 36, []) := (congrArg (fun t => fxl t 35) e_95).trans rfl
theorem f_Mo_river_36 : fx n_Mo_river 36 = some (.aload_n 0, 37, []) := (congrArg (fun t => fxl t 36) e_95).trans rfl
theorem f_Mo_river_37 : fx n_Mo_river 37 = some (.getfield 90, 40, [7, 2]) := (congrArg (fun t => fxl t 37) e_95).trans rfl
theorem f_Mo_river_40 : fx n_Mo_river 40 = some (.iconst 1, 41, []) := (congrArg (fun t => fxl t 40) e_95).trans rfl
theorem f_Mo_river_41 : fx n_Mo_river 41 = some (.iadd, 42, []) := (congrArg (fun t => fxl t 41) e_95).trans rfl
theorem f_Mo_river_42 : fx n_Mo_river 42 = some (.iconst 5, 43, []) := (congrArg (fun t => fxl t 42) e_95).trans rfl
theorem f_Mo_river_43 : fx n_Mo_river 43 = some (.idiv, 44, []) := (congrArg (fun t => fxl t 43) e_95).trans rfl
theorem f_Mo_river_44 : fx n_Mo_river 44 = some (.putfield 104, 47, [7, 3]) := (congrArg (fun t => fxl t 44) e_95).trans rfl
theorem f_Mo_river_47 : fx n_Mo_river 47 = some (.aload_n 0, 48, []) := (congrArg (fun t => fxl t 47) e_95).trans rfl
theorem f_Mo_river_48 : fx n_Mo_river 48 = some (.aload_n 0, 49, []) := (congrArg (fun t => fxl t 48) e_95).trans rfl
theorem f_Mo_river_49 : fx n_Mo_river 49 = some (.getfield 77, 52, [7, 1]) := (congrArg (fun t => fxl t 49) e_95).trans rfl
theorem f_Mo_river_52 : fx n_Mo_river 52 = some (.aload_n 0, 53, []) := (congrArg (fun t => fxl t 52) e_95).trans rfl
theorem f_Mo_river_53 : fx n_Mo_river 53 = some (.getfield 90, 56, [7, 2]) := (congrArg (fun t => fxl t 53) e_95).trans rfl
theorem f_Mo_river_56 : fx n_Mo_river 56 = some (.isub, 57, []) := (congrArg (fun t => fxl t 56) e_95).trans rfl
theorem f_Mo_river_57 : fx n_Mo_river 57 = some (.iconst 2, 58, []) := (congrArg (fun t => fxl t 57) e_95).trans rfl
theorem f_Mo_river_58 : fx n_Mo_river 58 = some (.idiv, 59, []) := (congrArg (fun t => fxl t 58) e_95).trans rfl
theorem f_Mo_river_59 : fx n_Mo_river 59 = some (.putfield 107, 62, [7, 4]) := (congrArg (fun t => fxl t 59) e_95).trans rfl
theorem f_Mo_river_62 : fx n_Mo_river 62 = some (.iconst 0, 63, []) := (congrArg (fun t => fxl t 62) e_95).trans rfl
theorem f_Mo_river_63 : fx n_Mo_river 63 = some (.istore_n 1, 64, []) := (congrArg (fun t => fxl t 63) e_95).trans rfl
theorem f_Mo_river_64 : fx n_Mo_river 64 = some (.iload_n 1, 65, []) := (congrArg (fun t => fxl t 64) e_95).trans rfl
theorem f_Mo_river_65 : fx n_Mo_river 65 = some (.aload_n 0, 66, []) := (congrArg (fun t => fxl t 65) e_95).trans rfl
theorem f_Mo_river_66 : fx n_Mo_river 66 = some (.getfield 104, 69, [7, 3]) := (congrArg (fun t => fxl t 66) e_95).trans rfl
theorem f_Mo_river_69 : fx n_Mo_river 69 = some (.if_icmp .ge 102, 72, [171]) := (congrArg (fun t => fxl t 69) e_95).trans rfl
theorem f_Mo_river_72 : fx n_Mo_river 72 = some (.aload_n 0, 73, []) := (congrArg (fun t => fxl t 72) e_95).trans rfl
theorem f_Mo_river_73 : fx n_Mo_river 73 = some (.getfield 13, 76, [7, 8]) := (congrArg (fun t => fxl t 73) e_95).trans rfl
theorem f_Mo_river_76 : fx n_Mo_river 76 = some (.iload_n 1, 77, []) := (congrArg (fun t => fxl t 76) e_95).trans rfl
theorem f_Mo_river_77 : fx n_Mo_river 77 = some (.aload_n 0, 78, []) := (congrArg (fun t => fxl t 77) e_95).trans rfl
theorem f_Mo_river_78 : fx n_Mo_river 78 = some (.getfield 7, 81, [7, 0]) := (congrArg (fun t => fxl t 78) e_95).trans rfl
theorem f_Mo_river_81 : fx n_Mo_river 81 = some (.iconst 5, 82, []) := (congrArg (fun t => fxl t 81) e_95).trans rfl
theorem f_Mo_river_82 : fx n_Mo_river 82 = some (.iload_n 1, 83, []) := (congrArg (fun t => fxl t 82) e_95).trans rfl
theorem f_Mo_river_83 : fx n_Mo_river 83 = some (.imul, 84, []) := (congrArg (fun t => fxl t 83) e_95).trans rfl
theorem f_Mo_river_84 : fx n_Mo_river 84 = some (.iaload, 85, []) := (congrArg (fun t => fxl t 84) e_95).trans rfl
theorem f_Mo_river_85 : fx n_Mo_river 85 = some (.invokestatic 80, 88, [90, 1]) := (congrArg (fun t => fxl t 85) e_95).trans rfl
theorem f_Mo_river_88 : fx n_Mo_river 88 = some (.iastore, 89, []) := (congrArg (fun t => fxl t 88) e_95).trans rfl
theorem f_Mo_river_89 : fx n_Mo_river 89 = some (.aload_n 0, 90, []) := (congrArg (fun t => fxl t 89) e_95).trans rfl
theorem f_Mo_river_90 : fx n_Mo_river 90 = some (.getfield 16, 93, [7, 9]) := (congrArg (fun t => fxl t 90) e_95).trans rfl
theorem f_Mo_river_93 : fx n_Mo_river 93 = some (.iload_n 1, 94, []) := (congrArg (fun t => fxl t 93) e_95).trans rfl
theorem f_Mo_river_94 : fx n_Mo_river 94 = some (.aload_n 0, 95, []) := (congrArg (fun t => fxl t 94) e_95).trans rfl
theorem f_Mo_river_95 : fx n_Mo_river 95 = some (.getfield 7, 98, [7, 0]) := (congrArg (fun t => fxl t 95) e_95).trans rfl
theorem f_Mo_river_98 : fx n_Mo_river 98 = some (.iconst 5, 99, []) := (congrArg (fun t => fxl t 98) e_95).trans rfl
theorem f_Mo_river_99 : fx n_Mo_river 99 = some (.iload_n 1, 100, []) := (congrArg (fun t => fxl t 99) e_95).trans rfl
theorem f_Mo_river_100 : fx n_Mo_river 100 = some (.imul, 101, []) := (congrArg (fun t => fxl t 100) e_95).trans rfl
theorem f_Mo_river_101 : fx n_Mo_river 101 = some (.iconst 1, 102, []) := (congrArg (fun t => fxl t 101) e_95).trans rfl
theorem f_Mo_river_102 : fx n_Mo_river 102 = some (.iadd, 103, []) := (congrArg (fun t => fxl t 102) e_95).trans rfl
theorem f_Mo_river_103 : fx n_Mo_river 103 = some (.iaload, 104, []) := (congrArg (fun t => fxl t 103) e_95).trans rfl
theorem f_Mo_river_104 : fx n_Mo_river 104 = some (.bipush 48, 106, []) := (congrArg (fun t => fxl t 104) e_95).trans rfl
theorem f_Mo_river_106 : fx n_Mo_river 106 = some (.isub, 107, []) := (congrArg (fun t => fxl t 106) e_95).trans rfl
theorem f_Mo_river_107 : fx n_Mo_river 107 = some (.iastore, 108, []) := (congrArg (fun t => fxl t 107) e_95).trans rfl
theorem f_Mo_river_108 : fx n_Mo_river 108 = some (.aload_n 0, 109, []) := (congrArg (fun t => fxl t 108) e_95).trans rfl
theorem f_Mo_river_109 : fx n_Mo_river 109 = some (.getfield 19, 112, [7, 10]) := (congrArg (fun t => fxl t 109) e_95).trans rfl
theorem f_Mo_river_112 : fx n_Mo_river 112 = some (.iload_n 1, 113, []) := (congrArg (fun t => fxl t 112) e_95).trans rfl
theorem f_Mo_river_113 : fx n_Mo_river 113 = some (.aload_n 0, 114, []) := (congrArg (fun t => fxl t 113) e_95).trans rfl
theorem f_Mo_river_114 : fx n_Mo_river 114 = some (.getfield 7, 117, [7, 0]) := (congrArg (fun t => fxl t 114) e_95).trans rfl
theorem f_Mo_river_117 : fx n_Mo_river 117 = some (.iconst 5, 118, []) := (congrArg (fun t => fxl t 117) e_95).trans rfl
theorem f_Mo_river_118 : fx n_Mo_river 118 = some (.iload_n 1, 119, []) := (congrArg (fun t => fxl t 118) e_95).trans rfl
theorem f_Mo_river_119 : fx n_Mo_river 119 = some (.imul, 120, []) := (congrArg (fun t => fxl t 119) e_95).trans rfl
theorem f_Mo_river_120 : fx n_Mo_river 120 = some (.iconst 2, 121, []) := (congrArg (fun t => fxl t 120) e_95).trans rfl
theorem f_Mo_river_121 : fx n_Mo_river 121 = some (.iadd, 122, []) := (congrArg (fun t => fxl t 121) e_95).trans rfl
theorem f_Mo_river_122 : fx n_Mo_river 122 = some (.iaload, 123, []) := (congrArg (fun t => fxl t 122) e_95).trans rfl
theorem f_Mo_river_123 : fx n_Mo_river 123 = some (.bipush 48, 125, []) := (congrArg (fun t => fxl t 123) e_95).trans rfl
theorem f_Mo_river_125 : fx n_Mo_river 125 = some (.isub, 126, []) := (congrArg (fun t => fxl t 125) e_95).trans rfl
theorem f_Mo_river_126 : fx n_Mo_river 126 = some (.iastore, 127, []) := (congrArg (fun t => fxl t 126) e_95).trans rfl
theorem f_Mo_river_127 : fx n_Mo_river 127 = some (.aload_n 0, 128, []) := (congrArg (fun t => fxl t 127) e_95).trans rfl
theorem f_Mo_river_128 : fx n_Mo_river 128 = some (.getfield 22, 131, [7, 11]) := (congrArg (fun t => fxl t 128) e_95).trans rfl
theorem f_Mo_river_131 : fx n_Mo_river 131 = some (.iload_n 1, 132, []) := (congrArg (fun t => fxl t 131) e_95).trans rfl
theorem f_Mo_river_132 : fx n_Mo_river 132 = some (.aload_n 0, 133, []) := (congrArg (fun t => fxl t 132) e_95).trans rfl
theorem f_Mo_river_133 : fx n_Mo_river 133 = some (.getfield 7, 136, [7, 0]) := (congrArg (fun t => fxl t 133) e_95).trans rfl
theorem f_Mo_river_136 : fx n_Mo_river 136 = some (.iconst 5, 137, []) := (congrArg (fun t => fxl t 136) e_95).trans rfl
theorem f_Mo_river_137 : fx n_Mo_river 137 = some (.iload_n 1, 138, []) := (congrArg (fun t => fxl t 137) e_95).trans rfl
theorem f_Mo_river_138 : fx n_Mo_river 138 = some (.imul, 139, []) := (congrArg (fun t => fxl t 138) e_95).trans rfl
theorem f_Mo_river_139 : fx n_Mo_river 139 = some (.iconst 3, 140, []) := (congrArg (fun t => fxl t 139) e_95).trans rfl
theorem f_Mo_river_140 : fx n_Mo_river 140 = some (.iadd, 141, []) := (congrArg (fun t => fxl t 140) e_95).trans rfl
theorem f_Mo_river_141 : fx n_Mo_river 141 = some (.iaload, 142, []) := (congrArg (fun t => fxl t 141) e_95).trans rfl
theorem f_Mo_river_142 : fx n_Mo_river 142 = some (.bipush 45, 144, []) := (congrArg (fun t => fxl t 142) e_95).trans rfl
theorem f_Mo_river_144 : fx n_Mo_river 144 = some (.if_icmp .ne 7, 147, [151]) := (congrArg (fun t => fxl t 144) e_95).trans rfl
theorem f_Mo_river_147 : fx n_Mo_river 147 = some (.iconst (-1), 148, []) := (congrArg (fun t => fxl t 147) e_95).trans rfl
theorem f_Mo_river_148 : fx n_Mo_river 148 = some (.goto 16, 151, [164]) := (congrArg (fun t => fxl t 148) e_95).trans rfl
theorem f_Mo_river_151 : fx n_Mo_river 151 = some (.aload_n 0, 152, []) := (congrArg (fun t => fxl t 151) e_95).trans rfl
theorem f_Mo_river_152 : fx n_Mo_river 152 = some (.getfield 7, 155, [7, 0]) := (congrArg (fun t => fxl t 152) e_95).trans rfl
theorem f_Mo_river_155 : fx n_Mo_river 155 = some (.iconst 5, 156, []) := (congrArg (fun t => fxl t 155) e_95).trans rfl
theorem f_Mo_river_156 : fx n_Mo_river 156 = some (.iload_n 1, 157, []) := (congrArg (fun t => fxl t 156) e_95).trans rfl
theorem f_Mo_river_157 : fx n_Mo_river 157 = some (.imul, 158, []) := (congrArg (fun t => fxl t 157) e_95).trans rfl
theorem f_Mo_river_158 : fx n_Mo_river 158 = some (.iconst 3, 159, []) := (congrArg (fun t => fxl t 158) e_95).trans rfl
theorem f_Mo_river_159 : fx n_Mo_river 159 = some (.iadd, 160, []) := (congrArg (fun t => fxl t 159) e_95).trans rfl
theorem f_Mo_river_160 : fx n_Mo_river 160 = some (.iaload, 161, []) := (congrArg (fun t => fxl t 160) e_95).trans rfl
theorem f_Mo_river_161 : fx n_Mo_river 161 = some (.bipush 48, 163, []) := (congrArg (fun t => fxl t 161) e_95).trans rfl
theorem f_Mo_river_163 : fx n_Mo_river 163 = some (.isub, 164, []) := (congrArg (fun t => fxl t 163) e_95).trans rfl
theorem f_Mo_river_164 : fx n_Mo_river 164 = some (.iastore, 165, []) := (congrArg (fun t => fxl t 164) e_95).trans rfl
theorem f_Mo_river_165 : fx n_Mo_river 165 = some (.iinc 1 1, 168, []) := (congrArg (fun t => fxl t 165) e_95).trans rfl
theorem f_Mo_river_168 : fx n_Mo_river 168 = some (.goto (-104), 171, [64]) := (congrArg (fun t => fxl t 168) e_95).trans rfl
theorem f_Mo_river_171 : fx n_Mo_river 171 = some (.iconst 0, 172, []) := (congrArg (fun t => fxl t 171) e_95).trans rfl
theorem f_Mo_river_172 : fx n_Mo_river 172 = some (.istore_n 1, 173, []) := (congrArg (fun t => fxl t 172) e_95).trans rfl
theorem f_Mo_river_173 : fx n_Mo_river 173 = some (.iload_n 1, 174, []) := (congrArg (fun t => fxl t 173) e_95).trans rfl
theorem f_Mo_river_174 : fx n_Mo_river 174 = some (.aload_n 0, 175, []) := (congrArg (fun t => fxl t 174) e_95).trans rfl
theorem f_Mo_river_175 : fx n_Mo_river 175 = some (.getfield 107, 178, [7, 4]) := (congrArg (fun t => fxl t 175) e_95).trans rfl
theorem f_Mo_river_178 : fx n_Mo_river 178 = some (.if_icmp .ge 33, 181, [211]) := (congrArg (fun t => fxl t 178) e_95).trans rfl
theorem f_Mo_river_181 : fx n_Mo_river 181 = some (.aload_n 0, 182, []) := (congrArg (fun t => fxl t 181) e_95).trans rfl
theorem f_Mo_river_182 : fx n_Mo_river 182 = some (.getfield 25, 185, [7, 12]) := (congrArg (fun t => fxl t 182) e_95).trans rfl
theorem f_Mo_river_185 : fx n_Mo_river 185 = some (.iload_n 1, 186, []) := (congrArg (fun t => fxl t 185) e_95).trans rfl
theorem f_Mo_river_186 : fx n_Mo_river 186 = some (.aload_n 0, 187, []) := (congrArg (fun t => fxl t 186) e_95).trans rfl
theorem f_Mo_river_187 : fx n_Mo_river 187 = some (.getfield 7, 190, [7, 0]) := (congrArg (fun t => fxl t 187) e_95).trans rfl
theorem f_Mo_river_190 : fx n_Mo_river 190 = some (.aload_n 0, 191, []) := (congrArg (fun t => fxl t 190) e_95).trans rfl
theorem f_Mo_river_191 : fx n_Mo_river 191 = some (.getfield 90, 194, [7, 2]) := (congrArg (fun t => fxl t 191) e_95).trans rfl
theorem f_Mo_river_194 : fx n_Mo_river 194 = some (.iconst 1, 195, []) := (congrArg (fun t => fxl t 194) e_95).trans rfl
theorem f_Mo_river_195 : fx n_Mo_river 195 = some (.iadd, 196, []) := (congrArg (fun t => fxl t 195) e_95).trans rfl
theorem f_Mo_river_196 : fx n_Mo_river 196 = some (.iconst 2, 197, []) := (congrArg (fun t => fxl t 196) e_95).trans rfl
theorem f_Mo_river_197 : fx n_Mo_river 197 = some (.iload_n 1, 198, []) := (congrArg (fun t => fxl t 197) e_95).trans rfl
theorem f_Mo_river_198 : fx n_Mo_river 198 = some (.imul, 199, []) := (congrArg (fun t => fxl t 198) e_95).trans rfl
theorem f_Mo_river_199 : fx n_Mo_river 199 = some (.iadd, 200, []) := (congrArg (fun t => fxl t 199) e_95).trans rfl
theorem f_Mo_river_200 : fx n_Mo_river 200 = some (.iaload, 201, []) := (congrArg (fun t => fxl t 200) e_95).trans rfl
theorem f_Mo_river_201 : fx n_Mo_river 201 = some (.bipush 48, 203, []) := (congrArg (fun t => fxl t 201) e_95).trans rfl
theorem f_Mo_river_203 : fx n_Mo_river 203 = some (.isub, 204, []) := (congrArg (fun t => fxl t 203) e_95).trans rfl
theorem f_Mo_river_204 : fx n_Mo_river 204 = some (.iastore, 205, []) := (congrArg (fun t => fxl t 204) e_95).trans rfl
theorem f_Mo_river_205 : fx n_Mo_river 205 = some (.iinc 1 1, 208, []) := (congrArg (fun t => fxl t 205) e_95).trans rfl
theorem f_Mo_river_208 : fx n_Mo_river 208 = some (.goto (-35), 211, [173]) := (congrArg (fun t => fxl t 208) e_95).trans rfl
theorem f_Mo_river_211 : fx n_Mo_river 211 = some (.aload_n 0, 212, []) := (congrArg (fun t => fxl t 211) e_95).trans rfl
theorem f_Mo_river_212 : fx n_Mo_river 212 = some (.iconst 0, 213, []) := (congrArg (fun t => fxl t 212) e_95).trans rfl
theorem f_Mo_river_213 : fx n_Mo_river 213 = some (.putfield 110, 216, [7, 5]) := (congrArg (fun t => fxl t 213) e_95).trans rfl
theorem f_Mo_river_216 : fx n_Mo_river 216 = some (.aload_n 0, 217, []) := (congrArg (fun t => fxl t 216) e_95).trans rfl
theorem f_Mo_river_217 : fx n_Mo_river 217 = some (.iconst 0, 218, []) := (congrArg (fun t => fxl t 217) e_95).trans rfl
theorem f_Mo_river_218 : fx n_Mo_river 218 = some (.putfield 113, 221, [7, 6]) := (congrArg (fun t => fxl t 218) e_95).trans rfl
theorem f_Mo_river_221 : fx n_Mo_river 221 = some (.aload_n 0, 222, []) := (congrArg (fun t => fxl t 221) e_95).trans rfl
theorem f_Mo_river_222 : fx n_Mo_river 222 = some (.iconst 0, 223, []) := (congrArg (fun t => fxl t 222) e_95).trans rfl
theorem f_Mo_river_223 : fx n_Mo_river 223 = some (.putfield 116, 226, [7, 19]) := (congrArg (fun t => fxl t 223) e_95).trans rfl
theorem f_Mo_river_226 : fx n_Mo_river 226 = some (.aload_n 0, 227, []) := (congrArg (fun t => fxl t 226) e_95).trans rfl
theorem f_Mo_river_227 : fx n_Mo_river 227 = some (.dup, 228, []) := (congrArg (fun t => fxl t 227) e_95).trans rfl
theorem f_Mo_river_228 : fx n_Mo_river 228 = some (.getfield 119, 231, [7, 7]) := (congrArg (fun t => fxl t 228) e_95).trans rfl
theorem f_Mo_river_231 : fx n_Mo_river 231 = some (.iconst 1, 232, []) := (congrArg (fun t => fxl t 231) e_95).trans rfl
theorem f_Mo_river_232 : fx n_Mo_river 232 = some (.iadd, 233, []) := (congrArg (fun t => fxl t 232) e_95).trans rfl
theorem f_Mo_river_233 : fx n_Mo_river 233 = some (.putfield 119, 236, [7, 7]) := (congrArg (fun t => fxl t 233) e_95).trans rfl
theorem f_Mo_river_236 : fx n_Mo_river 236 = some (.aload_n 0, 237, []) := (congrArg (fun t => fxl t 236) e_95).trans rfl
theorem f_Mo_river_237 : fx n_Mo_river 237 = some (.iconst 0, 238, []) := (congrArg (fun t => fxl t 237) e_95).trans rfl
theorem f_Mo_river_238 : fx n_Mo_river 238 = some (.putfield 77, 241, [7, 1]) := (congrArg (fun t => fxl t 238) e_95).trans rfl
theorem f_Mo_river_241 : fx n_Mo_river 241 = some (.aload_n 0, 242, []) := (congrArg (fun t => fxl t 241) e_95).trans rfl
theorem f_Mo_river_242 : fx n_Mo_river 242 = some (.getfield 104, 245, [7, 3]) := (congrArg (fun t => fxl t 242) e_95).trans rfl
theorem f_Mo_river_245 : fx n_Mo_river 245 = some (.ireturn, 246, []) := (congrArg (fun t => fxl t 245) e_95).trans rfl
theorem f_Mo_lacks_0 : fx n_Mo_lacks 0 = some (.aload_n 0, 1, []) := (congrArg (fun t => fxl t 0) e_96).trans rfl
theorem f_Mo_lacks_1 : fx n_Mo_lacks 1 = some (.getfield 104, 4, [7, 3]) := (congrArg (fun t => fxl t 1) e_96).trans rfl
theorem f_Mo_lacks_4 : fx n_Mo_lacks 4 = some (.ifCond .ne 7, 7, [11]) := (congrArg (fun t => fxl t 4) e_96).trans rfl
theorem f_Mo_lacks_7 : fx n_Mo_lacks 7 = some (.iconst 1, 8, []) := (congrArg (fun t => fxl t 7) e_96).trans rfl
theorem f_Mo_lacks_8 : fx n_Mo_lacks 8 = some (.goto 4, 11, [12]) := (congrArg (fun t => fxl t 8) e_96).trans rfl
theorem f_Mo_lacks_11 : fx n_Mo_lacks 11 = some (.iconst 0, 12, []) := (congrArg (fun t => fxl t 11) e_96).trans rfl
theorem f_Mo_lacks_12 : fx n_Mo_lacks 12 = some (.ireturn, 13, []) := (congrArg (fun t => fxl t 12) e_96).trans rfl
theorem f_Mo_isReach_0 : fx n_Mo_isReach 0 = some (.iload_n 1, 1, []) := (congrArg (fun t => fxl t 0) e_97).trans rfl
theorem f_Mo_isReach_1 : fx n_Mo_isReach 1 = some (.i2l, 2, []) := (congrArg (fun t => fxl t 1) e_97).trans rfl
theorem f_Mo_isReach_2 : fx n_Mo_isReach 2 = some (.lconst 0, 3, []) := (congrArg (fun t => fxl t 2) e_97).trans rfl
theorem f_Mo_isReach_3 : fx n_Mo_isReach 3 = some (.aload_n 0, 4, []) := (congrArg (fun t => fxl t 3) e_97).trans rfl
theorem f_Mo_isReach_4 : fx n_Mo_isReach 4 = some (.getfield 104, 7, [7, 3]) := (congrArg (fun t => fxl t 4) e_97).trans rfl
theorem f_Mo_isReach_7 : fx n_Mo_isReach 7 = some (.iconst 1, 8, []) := (congrArg (fun t => fxl t 7) e_97).trans rfl
theorem f_Mo_isReach_8 : fx n_Mo_isReach 8 = some (.isub, 9, []) := (congrArg (fun t => fxl t 8) e_97).trans rfl
theorem f_Mo_isReach_9 : fx n_Mo_isReach 9 = some (.i2l, 10, []) := (congrArg (fun t => fxl t 9) e_97).trans rfl
theorem f_Mo_isReach_10 : fx n_Mo_isReach 10 = some (.invokestatic 73, 13, [85, 3]) := (congrArg (fun t => fxl t 10) e_97).trans rfl
theorem f_Mo_isReach_13 : fx n_Mo_isReach 13 = some (.ireturn, 14, []) := (congrArg (fun t => fxl t 13) e_97).trans rfl
theorem f_Mo_isGoverness_0 : fx n_Mo_isGoverness 0 = some (.iload_n 1, 1, []) := (congrArg (fun t => fxl t 0) e_98).trans rfl
theorem f_Mo_isGoverness_1 : fx n_Mo_isGoverness 1 = some (.i2l, 2, []) := (congrArg (fun t => fxl t 1) e_98).trans rfl
theorem f_Mo_isGoverness_2 : fx n_Mo_isGoverness 2 = some (.lconst 0, 3, []) := (congrArg (fun t => fxl t 2) e_98).trans rfl
theorem f_Mo_isGoverness_3 : fx n_Mo_isGoverness 3 = some (.aload_n 0, 4, []) := (congrArg (fun t => fxl t 3) e_98).trans rfl
theorem f_Mo_isGoverness_4 : fx n_Mo_isGoverness 4 = some (.getfield 107, 7, [7, 4]) := (congrArg (fun t => fxl t 4) e_98).trans rfl
theorem f_Mo_isGoverness_7 : fx n_Mo_isGoverness 7 = some (.iconst 1, 8, []) := (congrArg (fun t => fxl t 7) e_98).trans rfl
theorem f_Mo_isGoverness_8 : fx n_Mo_isGoverness 8 = some (.isub, 9, []) := (congrArg (fun t => fxl t 8) e_98).trans rfl
theorem f_Mo_isGoverness_9 : fx n_Mo_isGoverness 9 = some (.i2l, 10, []) := (congrArg (fun t => fxl t 9) e_98).trans rfl
theorem f_Mo_isGoverness_10 : fx n_Mo_isGoverness 10 = some (.invokestatic 73, 13, [85, 3]) := (congrArg (fun t => fxl t 10) e_98).trans rfl
theorem f_Mo_isGoverness_13 : fx n_Mo_isGoverness 13 = some (.ireturn, 14, []) := (congrArg (fun t => fxl t 13) e_98).trans rfl
theorem f_Mo_out_0 : fx n_Mo_out 0 = some (.iload_n 0, 1, []) := (congrArg (fun t => fxl t 0) e_99).trans rfl
theorem f_Mo_out_1 : fx n_Mo_out 1 = some (.iconst 3, 2, []) := (congrArg (fun t => fxl t 1) e_99).trans rfl
theorem f_Mo_out_2 : fx n_Mo_out 2 = some (.if_icmp .ne 18, 5, [20]) := (congrArg (fun t => fxl t 2) e_99).trans rfl
theorem f_Mo_out_5 : fx n_Mo_out 5 = some (.iload_n 1, 6, []) := (congrArg (fun t => fxl t 5) e_99).trans rfl
theorem f_Mo_out_6 : fx n_Mo_out 6 = some (.bipush 9, 8, []) := (congrArg (fun t => fxl t 6) e_99).trans rfl
theorem f_Mo_out_8 : fx n_Mo_out 8 = some (.if_icmp .le 8, 11, [16]) := (congrArg (fun t => fxl t 8) e_99).trans rfl
theorem f_Mo_out_11 : fx n_Mo_out 11 = some (.bipush 9, 13, []) := (congrArg (fun t => fxl t 11) e_99).trans rfl
theorem f_Mo_out_13 : fx n_Mo_out 13 = some (.goto 19, 16, [32]) := (congrArg (fun t => fxl t 13) e_99).trans rfl
theorem f_Mo_out_16 : fx n_Mo_out 16 = some (.iload_n 1, 17, []) := (congrArg (fun t => fxl t 16) e_99).trans rfl
theorem f_Mo_out_17 : fx n_Mo_out 17 = some (.goto 15, 20, [32]) := (congrArg (fun t => fxl t 17) e_99).trans rfl
theorem f_Mo_out_20 : fx n_Mo_out 20 = some (.iload_n 0, 21, []) := (congrArg (fun t => fxl t 20) e_99).trans rfl
theorem f_Mo_out_21 : fx n_Mo_out 21 = some (.iconst 4, 22, []) := (congrArg (fun t => fxl t 21) e_99).trans rfl
theorem f_Mo_out_22 : fx n_Mo_out 22 = some (.if_icmp .ne 9, 25, [31]) := (congrArg (fun t => fxl t 22) e_99).trans rfl
theorem f_Mo_out_25 : fx n_Mo_out 25 = some (.iload_n 1, 26, []) := (congrArg (fun t => fxl t 25) e_99).trans rfl
theorem f_Mo_out_26 : fx n_Mo_out 26 = some (.iconst 2, 27, []) := (congrArg (fun t => fxl t 26) e_99).trans rfl
theorem f_Mo_out_27 : fx n_Mo_out 27 = some (.idiv, 28, []) := (congrArg (fun t => fxl t 27) e_99).trans rfl
theorem f_Mo_out_28 : fx n_Mo_out 28 = some (.goto 4, 31, [32]) := (congrArg (fun t => fxl t 28) e_99).trans rfl
theorem f_Mo_out_31 : fx n_Mo_out 31 = some (.iload_n 1, 32, []) := (congrArg (fun t => fxl t 31) e_99).trans rfl
theorem f_Mo_out_32 : fx n_Mo_out 32 = some (.ireturn, 33, []) := (congrArg (fun t => fxl t 32) e_99).trans rfl
theorem f_Mo_layWater_0 : fx n_Mo_layWater 0 = some (.iconst 0, 1, []) := (congrArg (fun t => fxl t 0) e_100).trans rfl
theorem f_Mo_layWater_1 : fx n_Mo_layWater 1 = some (.istore_n 1, 2, []) := (congrArg (fun t => fxl t 1) e_100).trans rfl
theorem f_Mo_layWater_2 : fx n_Mo_layWater 2 = some (.iload_n 1, 3, []) := (congrArg (fun t => fxl t 2) e_100).trans rfl
theorem f_Mo_layWater_3 : fx n_Mo_layWater 3 = some (.aload_n 0, 4, []) := (congrArg (fun t => fxl t 3) e_100).trans rfl
theorem f_Mo_layWater_4 : fx n_Mo_layWater 4 = some (.getfield 104, 7, [7, 3]) := (congrArg (fun t => fxl t 4) e_100).trans rfl
theorem f_Mo_layWater_7 : fx n_Mo_layWater 7 = some (.if_icmp .ge 21, 10, [28]) := (congrArg (fun t => fxl t 7) e_100).trans rfl
theorem f_Mo_layWater_10 : fx n_Mo_layWater 10 = some (.aload_n 0, 11, []) := (congrArg (fun t => fxl t 10) e_100).trans rfl
theorem f_Mo_layWater_11 : fx n_Mo_layWater 11 = some (.getfield 28, 14, [7, 13]) := (congrArg (fun t => fxl t 11) e_100).trans rfl
theorem f_Mo_layWater_14 : fx n_Mo_layWater 14 = some (.iload_n 1, 15, []) := (congrArg (fun t => fxl t 14) e_100).trans rfl
theorem f_Mo_layWater_15 : fx n_Mo_layWater 15 = some (.aload_n 0, 16, []) := (congrArg (fun t => fxl t 15) e_100).trans rfl
theorem f_Mo_layWater_16 : fx n_Mo_layWater 16 = some (.getfield 16, 19, [7, 9]) := (congrArg (fun t => fxl t 16) e_100).trans rfl
theorem f_Mo_layWater_19 : fx n_Mo_layWater 19 = some (.iload_n 1, 20, []) := (congrArg (fun t => fxl t 19) e_100).trans rfl
theorem f_Mo_layWater_20 : fx n_Mo_layWater 20 = some (.iaload, 21, []) := (congrArg (fun t => fxl t 20) e_100).trans rfl
theorem f_Mo_layWater_21 : fx n_Mo_layWater 21 = some (.iastore, 22, []) := (congrArg (fun t => fxl t 21) e_100).trans rfl
theorem f_Mo_layWater_22 : fx n_Mo_layWater 22 = some (.iinc 1 1, 25, []) := (congrArg (fun t => fxl t 22) e_100).trans rfl
theorem f_Mo_layWater_25 : fx n_Mo_layWater 25 = some (.goto (-23), 28, [2]) := (congrArg (fun t => fxl t 25) e_100).trans rfl
theorem f_Mo_layWater_28 : fx n_Mo_layWater 28 = some (.aload_n 0, 29, []) := (congrArg (fun t => fxl t 28) e_100).trans rfl
theorem f_Mo_layWater_29 : fx n_Mo_layWater 29 = some (.getfield 104, 32, [7, 3]) := (congrArg (fun t => fxl t 29) e_100).trans rfl
theorem f_Mo_layWater_32 : fx n_Mo_layWater 32 = some (.iconst 1, 33, []) := (congrArg (fun t => fxl t 32) e_100).trans rfl
theorem f_Mo_layWater_33 : fx n_Mo_layWater 33 = some (.isub, 34, []) := (congrArg (fun t => fxl t 33) e_100).trans rfl
theorem f_Mo_layWater_34 : fx n_Mo_layWater 34 = some (.istore_n 1, 35, []) := (congrArg (fun t => fxl t 34) e_100).trans rfl
theorem f_Mo_layWater_35 : fx n_Mo_layWater 35 = some (.iload_n 1, 36, []) := (congrArg (fun t => fxl t 35) e_100).trans rfl
theorem f_Mo_layWater_36 : fx n_Mo_layWater 36 = some (.ifCond .le 48, 39, [84]) := (congrArg (fun t => fxl t 36) e_100).trans rfl
theorem f_Mo_layWater_39 : fx n_Mo_layWater 39 = some (.aload_n 0, 40, []) := (congrArg (fun t => fxl t 39) e_100).trans rfl
theorem f_Mo_layWater_40 : fx n_Mo_layWater 40 = some (.getfield 22, 43, [7, 11]) := (congrArg (fun t => fxl t 40) e_100).trans rfl
theorem f_Mo_layWater_43 : fx n_Mo_layWater 43 = some (.iload_n 1, 44, []) := (congrArg (fun t => fxl t 43) e_100).trans rfl
theorem f_Mo_layWater_44 : fx n_Mo_layWater 44 = some (.iaload, 45, []) := (congrArg (fun t => fxl t 44) e_100).trans rfl
theorem f_Mo_layWater_45 : fx n_Mo_layWater 45 = some (.iconst (-1), 46, []) := (congrArg (fun t => fxl t 45) e_100).trans rfl
theorem f_Mo_layWater_46 : fx n_Mo_layWater 46 = some (.if_icmp .eq 32, 49, [78]) := (congrArg (fun t => fxl t 46) e_100).trans rfl
theorem f_Mo_layWater_49 : fx n_Mo_layWater 49 = some (.aload_n 0, 50, []) := (congrArg (fun t => fxl t 49) e_100).trans rfl
theorem f_Mo_layWater_50 : fx n_Mo_layWater 50 = some (.getfield 28, 53, [7, 13]) := (congrArg (fun t => fxl t 50) e_100).trans rfl
theorem f_Mo_layWater_53 : fx n_Mo_layWater 53 = some (.aload_n 0, 54, []) := (congrArg (fun t => fxl t 53) e_100).trans rfl
theorem f_Mo_layWater_54 : fx n_Mo_layWater 54 = some (.getfield 22, 57, [7, 11]) := (congrArg (fun t => fxl t 54) e_100).trans rfl
theorem f_Mo_layWater_57 : fx n_Mo_layWater 57 = some (.iload_n 1, 58, []) := (congrArg (fun t => fxl t 57) e_100).trans rfl
theorem f_Mo_layWater_58 : fx n_Mo_layWater 58 = some (.iaload, 59, []) := (congrArg (fun t => fxl t 58) e_100).trans rfl
theorem f_Mo_layWater_59 : fx n_Mo_layWater 59 = some (.dup2, 60, []) := (congrArg (fun t => fxl t 59) e_100).trans rfl
theorem f_Mo_layWater_60 : fx n_Mo_layWater 60 = some (.iaload, 61, []) := (congrArg (fun t => fxl t 60) e_100).trans rfl
theorem f_Mo_layWater_61 : fx n_Mo_layWater 61 = some (.aload_n 0, 62, []) := (congrArg (fun t => fxl t 61) e_100).trans rfl
theorem f_Mo_layWater_62 : fx n_Mo_layWater 62 = some (.getfield 13, 65, [7, 8]) := (congrArg (fun t => fxl t 62) e_100).trans rfl
theorem f_Mo_layWater_65 : fx n_Mo_layWater 65 = some (.iload_n 1, 66, []) := (congrArg (fun t => fxl t 65) e_100).trans rfl
theorem f_Mo_layWater_66 : fx n_Mo_layWater 66 = some (.iaload, 67, []) := (congrArg (fun t => fxl t 66) e_100).trans rfl
theorem f_Mo_layWater_67 : fx n_Mo_layWater 67 = some (.aload_n 0, 68, []) := (congrArg (fun t => fxl t 67) e_100).trans rfl
theorem f_Mo_layWater_68 : fx n_Mo_layWater 68 = some (.getfield 28, 71, [7, 13]) := (congrArg (fun t => fxl t 68) e_100).trans rfl
theorem f_Mo_layWater_71 : fx n_Mo_layWater 71 = some (.iload_n 1, 72, []) := (congrArg (fun t => fxl t 71) e_100).trans rfl
theorem f_Mo_layWater_72 : fx n_Mo_layWater 72 = some (.iaload, 73, []) := (congrArg (fun t => fxl t 72) e_100).trans rfl
theorem f_Mo_layWater_73 : fx n_Mo_layWater 73 = some (.invokestatic 122, 76, [99, 2]) := (congrArg (fun t => fxl t 73) e_100).trans rfl
theorem f_Mo_layWater_76 : fx n_Mo_layWater 76 = some (.iadd, 77, []) := (congrArg (fun t => fxl t 76) e_100).trans rfl
theorem f_Mo_layWater_77 : fx n_Mo_layWater 77 = some (.iastore, 78, []) := (congrArg (fun t => fxl t 77) e_100).trans rfl
theorem f_Mo_layWater_78 : fx n_Mo_layWater 78 = some (.iinc 1 (-1), 81, []) := (congrArg (fun t => fxl t 78) e_100).trans rfl
theorem f_Mo_layWater_81 : fx n_Mo_layWater 81 = some (.goto (-46), 84, [35]) := (congrArg (fun t => fxl t 81) e_100).trans rfl
theorem f_Mo_layWater_84 : fx n_Mo_layWater 84 = some (.return_, 85, []) := (congrArg (fun t => fxl t 84) e_100).trans rfl
theorem f_Mo_isFlood_0 : fx n_Mo_isFlood 0 = some (.iload_n 1, 1, []) := (congrArg (fun t => fxl t 0) e_101).trans rfl
theorem f_Mo_isFlood_1 : fx n_Mo_isFlood 1 = some (.iload_n 0, 2, []) := (congrArg (fun t => fxl t 1) e_101).trans rfl
theorem f_Mo_isFlood_2 : fx n_Mo_isFlood 2 = some (.iconst 2, 3, []) := (congrArg (fun t => fxl t 2) e_101).trans rfl
theorem f_Mo_isFlood_3 : fx n_Mo_isFlood 3 = some (.if_icmp .ne 9, 6, [12]) := (congrArg (fun t => fxl t 3) e_101).trans rfl
theorem f_Mo_isFlood_6 : fx n_Mo_isFlood 6 = some (.iconst 2, 7, []) := (congrArg (fun t => fxl t 6) e_101).trans rfl
theorem f_Mo_isFlood_7 : fx n_Mo_isFlood 7 = some (.iload_n 2, 8, []) := (congrArg (fun t => fxl t 7) e_101).trans rfl
theorem f_Mo_isFlood_8 : fx n_Mo_isFlood 8 = some (.imul, 9, []) := (congrArg (fun t => fxl t 8) e_101).trans rfl
theorem f_Mo_isFlood_9 : fx n_Mo_isFlood 9 = some (.goto 4, 12, [13]) := (congrArg (fun t => fxl t 9) e_101).trans rfl
theorem f_Mo_isFlood_12 : fx n_Mo_isFlood 12 = some (.iload_n 2, 13, []) := (congrArg (fun t => fxl t 12) e_101).trans rfl
theorem f_Mo_isFlood_13 : fx n_Mo_isFlood 13 = some (.iadd, 14, []) := (congrArg (fun t => fxl t 13) e_101).trans rfl
theorem f_Mo_isFlood_14 : fx n_Mo_isFlood 14 = some (.bipush 20, 16, []) := (congrArg (fun t => fxl t 14) e_101).trans rfl
theorem f_Mo_isFlood_16 : fx n_Mo_isFlood 16 = some (.if_icmp .le 7, 19, [23]) := (congrArg (fun t => fxl t 16) e_101).trans rfl
theorem f_Mo_isFlood_19 : fx n_Mo_isFlood 19 = some (.iconst 1, 20, []) := (congrArg (fun t => fxl t 19) e_101).trans rfl
theorem f_Mo_isFlood_20 : fx n_Mo_isFlood 20 = some (.goto 4, 23, [24]) := (congrArg (fun t => fxl t 20) e_101).trans rfl
theorem f_Mo_isFlood_23 : fx n_Mo_isFlood 23 = some (.iconst 0, 24, []) := (congrArg (fun t => fxl t 23) e_101).trans rfl
theorem f_Mo_isFlood_24 : fx n_Mo_isFlood 24 = some (.ireturn, 25, []) := (congrArg (fun t => fxl t 24) e_101).trans rfl
theorem f_Mo_waterOf_0 : fx n_Mo_waterOf 0 = some (.aload_n 0, 1, []) := (congrArg (fun t => fxl t 0) e_102).trans rfl
theorem f_Mo_waterOf_1 : fx n_Mo_waterOf 1 = some (.invokevirtual 126, 4, [100, 0]) := (congrArg (fun t => fxl t 1) e_102).trans rfl
theorem f_Mo_waterOf_4 : fx n_Mo_waterOf 4 = some (.aload_n 0, 5, []) := (congrArg (fun t => fxl t 4) e_102).trans rfl
theorem f_Mo_waterOf_5 : fx n_Mo_waterOf 5 = some (.getfield 28, 8, [7, 13]) := (congrArg (fun t => fxl t 5) e_102).trans rfl
theorem f_Mo_waterOf_8 : fx n_Mo_waterOf 8 = some (.iload_n 1, 9, []) := (congrArg (fun t => fxl t 8) e_102).trans rfl
theorem f_Mo_waterOf_9 : fx n_Mo_waterOf 9 = some (.iaload, 10, []) := (congrArg (fun t => fxl t 9) e_102).trans rfl
theorem f_Mo_waterOf_10 : fx n_Mo_waterOf 10 = some (.ireturn, 11, []) := (congrArg (fun t => fxl t 10) e_102).trans rfl
theorem f_Mo_floodsBy_0 : fx n_Mo_floodsBy 0 = some (.aload_n 0, 1, []) := (congrArg (fun t => fxl t 0) e_103).trans rfl
theorem f_Mo_floodsBy_1 : fx n_Mo_floodsBy 1 = some (.invokevirtual 126, 4, [100, 0]) := (congrArg (fun t => fxl t 1) e_103).trans rfl
theorem f_Mo_floodsBy_4 : fx n_Mo_floodsBy 4 = some (.iconst 0, 5, []) := (congrArg (fun t => fxl t 4) e_103).trans rfl
theorem f_Mo_floodsBy_5 : fx n_Mo_floodsBy 5 = some (.istore_n 2, 6, []) := (congrArg (fun t => fxl t 5) e_103).trans rfl
theorem f_Mo_floodsBy_6 : fx n_Mo_floodsBy 6 = some (.iconst 0, 7, []) := (congrArg (fun t => fxl t 6) e_103).trans rfl
theorem f_Mo_floodsBy_7 : fx n_Mo_floodsBy 7 = some (.istore_n 3, 8, []) := (congrArg (fun t => fxl t 7) e_103).trans rfl
theorem f_Mo_floodsBy_8 : fx n_Mo_floodsBy 8 = some (.iload_n 3, 9, []) := (congrArg (fun t => fxl t 8) e_103).trans rfl
theorem f_Mo_floodsBy_9 : fx n_Mo_floodsBy 9 = some (.aload_n 0, 10, []) := (congrArg (fun t => fxl t 9) e_103).trans rfl
theorem f_Mo_floodsBy_10 : fx n_Mo_floodsBy 10 = some (.getfield 104, 13, [7, 3]) := (congrArg (fun t => fxl t 10) e_103).trans rfl
theorem f_Mo_floodsBy_13 : fx n_Mo_floodsBy 13 = some (.if_icmp .ge 38, 16, [51]) := (congrArg (fun t => fxl t 13) e_103).trans rfl
theorem f_Mo_floodsBy_16 : fx n_Mo_floodsBy 16 = some (.iload_n 2, 17, []) := (congrArg (fun t => fxl t 16) e_103).trans rfl
theorem f_Mo_floodsBy_17 : fx n_Mo_floodsBy 17 = some (.aload_n 0, 18, []) := (congrArg (fun t => fxl t 17) e_103).trans rfl
theorem f_Mo_floodsBy_18 : fx n_Mo_floodsBy 18 = some (.getfield 13, 21, [7, 8]) := (congrArg (fun t => fxl t 18) e_103).trans rfl
theorem f_Mo_floodsBy_21 : fx n_Mo_floodsBy 21 = some (.iload_n 3, 22, []) := (congrArg (fun t => fxl t 21) e_103).trans rfl
theorem f_Mo_floodsBy_22 : fx n_Mo_floodsBy 22 = some (.iaload, 23, []) := (congrArg (fun t => fxl t 22) e_103).trans rfl
theorem f_Mo_floodsBy_23 : fx n_Mo_floodsBy 23 = some (.aload_n 0, 24, []) := (congrArg (fun t => fxl t 23) e_103).trans rfl
theorem f_Mo_floodsBy_24 : fx n_Mo_floodsBy 24 = some (.getfield 28, 27, [7, 13]) := (congrArg (fun t => fxl t 24) e_103).trans rfl
theorem f_Mo_floodsBy_27 : fx n_Mo_floodsBy 27 = some (.iload_n 3, 28, []) := (congrArg (fun t => fxl t 27) e_103).trans rfl
theorem f_Mo_floodsBy_28 : fx n_Mo_floodsBy 28 = some (.iaload, 29, []) := (congrArg (fun t => fxl t 28) e_103).trans rfl
theorem f_Mo_floodsBy_29 : fx n_Mo_floodsBy 29 = some (.aload_n 1, 30, []) := (congrArg (fun t => fxl t 29) e_103).trans rfl
theorem f_Mo_floodsBy_30 : fx n_Mo_floodsBy 30 = some (.iload_n 3, 31, []) := (congrArg (fun t => fxl t 30) e_103).trans rfl
theorem f_Mo_floodsBy_31 : fx n_Mo_floodsBy 31 = some (.iaload, 32, []) := (congrArg (fun t => fxl t 31) e_103).trans rfl
theorem f_Mo_floodsBy_32 : fx n_Mo_floodsBy 32 = some (.invokestatic 129, 35, [101, 3]) := (congrArg (fun t => fxl t 32) e_103).trans rfl
theorem f_Mo_floodsBy_35 : fx n_Mo_floodsBy 35 = some (.ifCond .eq 7, 38, [42]) := (congrArg (fun t => fxl t 35) e_103).trans rfl
theorem f_Mo_floodsBy_38 : fx n_Mo_floodsBy 38 = some (.iconst 1, 39, []) := (congrArg (fun t => fxl t 38) e_103).trans rfl
theorem f_Mo_floodsBy_39 : fx n_Mo_floodsBy 39 = some (.goto 4, 42, [43]) := (congrArg (fun t => fxl t 39) e_103).trans rfl
theorem f_Mo_floodsBy_42 : fx n_Mo_floodsBy 42 = some (.iconst 0, 43, []) := (congrArg (fun t => fxl t 42) e_103).trans rfl
theorem f_Mo_floodsBy_43 : fx n_Mo_floodsBy 43 = some (.iadd, 44, []) := (congrArg (fun t => fxl t 43) e_103).trans rfl
theorem f_Mo_floodsBy_44 : fx n_Mo_floodsBy 44 = some (.istore_n 2, 45, []) := (congrArg (fun t => fxl t 44) e_103).trans rfl
theorem f_Mo_floodsBy_45 : fx n_Mo_floodsBy 45 = some (.iinc 3 1, 48, []) := (congrArg (fun t => fxl t 45) e_103).trans rfl
theorem f_Mo_floodsBy_48 : fx n_Mo_floodsBy 48 = some (.goto (-40), 51, [8]) := (congrArg (fun t => fxl t 48) e_103).trans rfl
theorem f_Mo_floodsBy_51 : fx n_Mo_floodsBy 51 = some (.iload_n 2, 52, []) := (congrArg (fun t => fxl t 51) e_103).trans rfl
theorem f_Mo_floodsBy_52 : fx n_Mo_floodsBy 52 = some (.ireturn, 53, []) := (congrArg (fun t => fxl t 52) e_103).trans rfl
theorem f_Mo_sumOf_0 : fx n_Mo_sumOf 0 = some (.iconst 0, 1, []) := (congrArg (fun t => fxl t 0) e_104).trans rfl
theorem f_Mo_sumOf_1 : fx n_Mo_sumOf 1 = some (.istore_n 2, 2, []) := (congrArg (fun t => fxl t 1) e_104).trans rfl
theorem f_Mo_sumOf_2 : fx n_Mo_sumOf 2 = some (.iconst 0, 3, []) := (congrArg (fun t => fxl t 2) e_104).trans rfl
theorem f_Mo_sumOf_3 : fx n_Mo_sumOf 3 = some (.istore_n 3, 4, []) := (congrArg (fun t => fxl t 3) e_104).trans rfl
theorem f_Mo_sumOf_4 : fx n_Mo_sumOf 4 = some (.iload_n 3, 5, []) := (congrArg (fun t => fxl t 4) e_104).trans rfl
theorem f_Mo_sumOf_5 : fx n_Mo_sumOf 5 = some (.aload_n 0, 6, []) := (congrArg (fun t => fxl t 5) e_104).trans rfl
theorem f_Mo_sumOf_6 : fx n_Mo_sumOf 6 = some (.getfield 104, 9, [7, 3]) := (congrArg (fun t => fxl t 6) e_104).trans rfl
theorem f_Mo_sumOf_9 : fx n_Mo_sumOf 9 = some (.if_icmp .ge 15, 12, [24]) := (congrArg (fun t => fxl t 9) e_104).trans rfl
theorem f_Mo_sumOf_12 : fx n_Mo_sumOf 12 = some (.iload_n 2, 13, []) := (congrArg (fun t => fxl t 12) e_104).trans rfl
theorem f_Mo_sumOf_13 : fx n_Mo_sumOf 13 = some (.aload_n 1, 14, []) := (congrArg (fun t => fxl t 13) e_104).trans rfl
theorem f_Mo_sumOf_14 : fx n_Mo_sumOf 14 = some (.iload_n 3, 15, []) := (congrArg (fun t => fxl t 14) e_104).trans rfl
theorem f_Mo_sumOf_15 : fx n_Mo_sumOf 15 = some (.iaload, 16, []) := (congrArg (fun t => fxl t 15) e_104).trans rfl
theorem f_Mo_sumOf_16 : fx n_Mo_sumOf 16 = some (.iadd, 17, []) := (congrArg (fun t => fxl t 16) e_104).trans rfl
theorem f_Mo_sumOf_17 : fx n_Mo_sumOf 17 = some (.istore_n 2, 18, []) := (congrArg (fun t => fxl t 17) e_104).trans rfl
theorem f_Mo_sumOf_18 : fx n_Mo_sumOf 18 = some (.iinc 3 1, 21, []) := (congrArg (fun t => fxl t 18) e_104).trans rfl
theorem f_Mo_sumOf_21 : fx n_Mo_sumOf 21 = some (.goto (-17), 24, [4]) := (congrArg (fun t => fxl t 21) e_104).trans rfl
theorem f_Mo_sumOf_24 : fx n_Mo_sumOf 24 = some (.iload_n 2, 25, []) := (congrArg (fun t => fxl t 24) e_104).trans rfl
theorem f_Mo_sumOf_25 : fx n_Mo_sumOf 25 = some (.ireturn, 26, []) := (congrArg (fun t => fxl t 25) e_104).trans rfl
theorem f_Mo_isTended_0 : fx n_Mo_isTended 0 = some (.iconst 0, 1, []) := (congrArg (fun t => fxl t 0) e_105).trans rfl
theorem f_Mo_isTended_1 : fx n_Mo_isTended 1 = some (.istore_n 2, 2, []) := (congrArg (fun t => fxl t 1) e_105).trans rfl
theorem f_Mo_isTended_2 : fx n_Mo_isTended 2 = some (.iconst 0, 3, []) := (congrArg (fun t => fxl t 2) e_105).trans rfl
theorem f_Mo_isTended_3 : fx n_Mo_isTended 3 = some (.istore_n 3, 4, []) := (congrArg (fun t => fxl t 3) e_105).trans rfl
theorem f_Mo_isTended_4 : fx n_Mo_isTended 4 = some (.iload_n 3, 5, []) := (congrArg (fun t => fxl t 4) e_105).trans rfl
theorem f_Mo_isTended_5 : fx n_Mo_isTended 5 = some (.aload_n 0, 6, []) := (congrArg (fun t => fxl t 5) e_105).trans rfl
theorem f_Mo_isTended_6 : fx n_Mo_isTended 6 = some (.getfield 107, 9, [7, 4]) := (congrArg (fun t => fxl t 6) e_105).trans rfl
theorem f_Mo_isTended_9 : fx n_Mo_isTended 9 = some (.if_icmp .ge 29, 12, [38]) := (congrArg (fun t => fxl t 9) e_105).trans rfl
theorem f_Mo_isTended_12 : fx n_Mo_isTended 12 = some (.iload_n 2, 13, []) := (congrArg (fun t => fxl t 12) e_105).trans rfl
theorem f_Mo_isTended_13 : fx n_Mo_isTended 13 = some (.ifCond .ne 13, 16, [26]) := (congrArg (fun t => fxl t 13) e_105).trans rfl
theorem f_Mo_isTended_16 : fx n_Mo_isTended 16 = some (.aload_n 0, 17, []) := (congrArg (fun t => fxl t 16) e_105).trans rfl
theorem f_Mo_isTended_17 : fx n_Mo_isTended 17 = some (.getfield 34, 20, [7, 15]) := (congrArg (fun t => fxl t 17) e_105).trans rfl
theorem f_Mo_isTended_20 : fx n_Mo_isTended 20 = some (.iload_n 3, 21, []) := (congrArg (fun t => fxl t 20) e_105).trans rfl
theorem f_Mo_isTended_21 : fx n_Mo_isTended 21 = some (.iaload, 22, []) := (congrArg (fun t => fxl t 21) e_105).trans rfl
theorem f_Mo_isTended_22 : fx n_Mo_isTended 22 = some (.iload_n 1, 23, []) := (congrArg (fun t => fxl t 22) e_105).trans rfl
theorem f_Mo_isTended_23 : fx n_Mo_isTended 23 = some (.if_icmp .ne 7, 26, [30]) := (congrArg (fun t => fxl t 23) e_105).trans rfl
theorem f_Mo_isTended_26 : fx n_Mo_isTended 26 = some (.iconst 1, 27, []) := (congrArg (fun t => fxl t 26) e_105).trans rfl
theorem f_Mo_isTended_27 : fx n_Mo_isTended 27 = some (.goto 4, 30, [31]) := (congrArg (fun t => fxl t 27) e_105).trans rfl
theorem f_Mo_isTended_30 : fx n_Mo_isTended 30 = some (.iconst 0, 31, []) := (congrArg (fun t => fxl t 30) e_105).trans rfl
theorem f_Mo_isTended_31 : fx n_Mo_isTended 31 = some (.istore_n 2, 32, []) := (congrArg (fun t => fxl t 31) e_105).trans rfl
theorem f_Mo_isTended_32 : fx n_Mo_isTended 32 = some (.iinc 3 1, 35, []) := (congrArg (fun t => fxl t 32) e_105).trans rfl
theorem f_Mo_isTended_35 : fx n_Mo_isTended 35 = some (.goto (-31), 38, [4]) := (congrArg (fun t => fxl t 35) e_105).trans rfl
theorem f_Mo_isTended_38 : fx n_Mo_isTended 38 = some (.iload_n 2, 39, []) := (congrArg (fun t => fxl t 38) e_105).trans rfl
theorem f_Mo_isTended_39 : fx n_Mo_isTended 39 = some (.ireturn, 40, []) := (congrArg (fun t => fxl t 39) e_105).trans rfl
theorem f_Mo_begin_0 : fx n_Mo_begin 0 = some (.aload_n 0, 1, []) := (congrArg (fun t => fxl t 0) e_106).trans rfl
theorem f_Mo_begin_1 : fx n_Mo_begin 1 = some (.getfield 19, 4, [7, 10]) := (congrArg (fun t => fxl t 1) e_106).trans rfl
theorem f_Mo_begin_4 : fx n_Mo_begin 4 = some (.aload_n 0, 5, []) := (congrArg (fun t => fxl t 4) e_106).trans rfl
theorem f_Mo_begin_5 : fx n_Mo_begin 5 = some (.getfield 31, 8, [7, 14]) := (congrArg (fun t => fxl t 5) e_106).trans rfl
theorem f_Mo_begin_8 : fx n_Mo_begin 8 = some (.invokestatic 133, 11, [86, 2]) := (congrArg (fun t => fxl t 8) e_106).trans rfl
theorem f_Mo_begin_11 : fx n_Mo_begin 11 = some (.aload_n 0, 12, []) := (congrArg (fun t => fxl t 11) e_106).trans rfl
theorem f_Mo_begin_12 : fx n_Mo_begin 12 = some (.getfield 25, 15, [7, 12]) := (congrArg (fun t => fxl t 12) e_106).trans rfl
theorem f_Mo_begin_15 : fx n_Mo_begin 15 = some (.aload_n 0, 16, []) := (congrArg (fun t => fxl t 15) e_106).trans rfl
theorem f_Mo_begin_16 : fx n_Mo_begin 16 = some (.getfield 34, 19, [7, 15]) := (congrArg (fun t => fxl t 16) e_106).trans rfl
theorem f_Mo_begin_19 : fx n_Mo_begin 19 = some (.invokestatic 133, 22, [86, 2]) := (congrArg (fun t => fxl t 19) e_106).trans rfl
theorem f_Mo_begin_22 : fx n_Mo_begin 22 = some (.return_, 23, []) := (congrArg (fun t => fxl t 22) e_106).trans rfl
theorem f_Mo_goOn_0 : fx n_Mo_goOn 0 = some (.iconst 0, 1, []) := (congrArg (fun t => fxl t 0) e_107).trans rfl
theorem f_Mo_goOn_1 : fx n_Mo_goOn 1 = some (.istore_n 2, 2, []) := (congrArg (fun t => fxl t 1) e_107).trans rfl
theorem f_Mo_goOn_2 : fx n_Mo_goOn 2 = some (.iload_n 2, 3, []) := (congrArg (fun t => fxl t 2) e_107).trans rfl
theorem f_Mo_goOn_3 : fx n_Mo_goOn 3 = some (.aload_n 0, 4, []) := (congrArg (fun t => fxl t 3) e_107).trans rfl
theorem f_Mo_goOn_4 : fx n_Mo_goOn 4 = some (.getfield 107, 7, [7, 4]) := (congrArg (fun t => fxl t 4) e_107).trans rfl
theorem f_Mo_goOn_7 : fx n_Mo_goOn 7 = some (.if_icmp .ge 77, 10, [84]) := (congrArg (fun t => fxl t 7) e_107).trans rfl
theorem f_Mo_goOn_10 : fx n_Mo_goOn 10 = some (.aload_n 0, 11, []) := (congrArg (fun t => fxl t 10) e_107).trans rfl
theorem f_Mo_goOn_11 : fx n_Mo_goOn 11 = some (.getfield 34, 14, [7, 15]) := (congrArg (fun t => fxl t 11) e_107).trans rfl
theorem f_Mo_goOn_14 : fx n_Mo_goOn 14 = some (.iload_n 2, 15, []) := (congrArg (fun t => fxl t 14) e_107).trans rfl
theorem f_Mo_goOn_15 : fx n_Mo_goOn 15 = some (.iaload, 16, []) := (congrArg (fun t => fxl t 15) e_107).trans rfl
theorem f_Mo_goOn_16 : fx n_Mo_goOn 16 = some (.istore_n 3, 17, []) := (congrArg (fun t => fxl t 16) e_107).trans rfl
theorem f_Mo_goOn_17 : fx n_Mo_goOn 17 = some (.aload_n 0, 18, []) := (congrArg (fun t => fxl t 17) e_107).trans rfl
theorem f_Mo_goOn_18 : fx n_Mo_goOn 18 = some (.getfield 13, 21, [7, 8]) := (congrArg (fun t => fxl t 18) e_107).trans rfl
theorem f_Mo_goOn_21 : fx n_Mo_goOn 21 = some (.iload_n 3, 22, []) := (congrArg (fun t => fxl t 21) e_107).trans rfl
theorem f_Mo_goOn_22 : fx n_Mo_goOn 22 = some (.iaload, 23, []) := (congrArg (fun t => fxl t 22) e_107).trans rfl
theorem f_Mo_goOn_23 : fx n_Mo_goOn 23 = some (.iconst 1, 24, []) := (congrArg (fun t => fxl t 23) e_107).trans rfl
theorem f_Mo_goOn_24 : fx n_Mo_goOn 24 = some (.if_icmp .eq 13, 27, [37]) := (congrArg (fun t => fxl t 24) e_107).trans rfl
theorem f_Mo_goOn_27 : fx n_Mo_goOn 27 = some (.aload_n 0, 28, []) := (congrArg (fun t => fxl t 27) e_107).trans rfl
theorem f_Mo_goOn_28 : fx n_Mo_goOn 28 = some (.getfield 13, 31, [7, 8]) := (congrArg (fun t => fxl t 28) e_107).trans rfl
theorem f_Mo_goOn_31 : fx n_Mo_goOn 31 = some (.iload_n 3, 32, []) := (congrArg (fun t => fxl t 31) e_107).trans rfl
theorem f_Mo_goOn_32 : fx n_Mo_goOn 32 = some (.iaload, 33, []) := (congrArg (fun t => fxl t 32) e_107).trans rfl
theorem f_Mo_goOn_33 : fx n_Mo_goOn 33 = some (.iconst 4, 34, []) := (congrArg (fun t => fxl t 33) e_107).trans rfl
theorem f_Mo_goOn_34 : fx n_Mo_goOn 34 = some (.if_icmp .ne 9, 37, [43]) := (congrArg (fun t => fxl t 34) e_107).trans rfl
theorem f_Mo_goOn_37 : fx n_Mo_goOn 37 = some (.iload_n 1, 38, []) := (congrArg (fun t => fxl t 37) e_107).trans rfl
theorem f_Mo_goOn_38 : fx n_Mo_goOn 38 = some (.iconst 2, 39, []) := (congrArg (fun t => fxl t 38) e_107).trans rfl
theorem f_Mo_goOn_39 : fx n_Mo_goOn 39 = some (.irem, 40, []) := (congrArg (fun t => fxl t 39) e_107).trans rfl
theorem f_Mo_goOn_40 : fx n_Mo_goOn 40 = some (.ifCond .ne 7, 43, [47]) := (congrArg (fun t => fxl t 40) e_107).trans rfl
theorem f_Mo_goOn_43 : fx n_Mo_goOn 43 = some (.iconst 1, 44, []) := (congrArg (fun t => fxl t 43) e_107).trans rfl
theorem f_Mo_goOn_44 : fx n_Mo_goOn 44 = some (.goto 4, 47, [48]) := (congrArg (fun t => fxl t 44) e_107).trans rfl
theorem f_Mo_goOn_47 : fx n_Mo_goOn 47 = some (.iconst 0, 48, []) := (congrArg (fun t => fxl t 47) e_107).trans rfl
theorem f_Mo_goOn_48 : fx n_Mo_goOn 48 = some (.istore 4, 50, []) := (congrArg (fun t => fxl t 48) e_107).trans rfl
theorem f_Mo_goOn_50 : fx n_Mo_goOn 50 = some (.aload_n 0, 51, []) := (congrArg (fun t => fxl t 50) e_107).trans rfl
theorem f_Mo_goOn_51 : fx n_Mo_goOn 51 = some (.getfield 31, 54, [7, 14]) := (congrArg (fun t => fxl t 51) e_107).trans rfl
theorem f_Mo_goOn_54 : fx n_Mo_goOn 54 = some (.iload_n 3, 55, []) := (congrArg (fun t => fxl t 54) e_107).trans rfl
theorem f_Mo_goOn_55 : fx n_Mo_goOn 55 = some (.dup2, 56, []) := (congrArg (fun t => fxl t 55) e_107).trans rfl
theorem f_Mo_goOn_56 : fx n_Mo_goOn 56 = some (.iaload, 57, []) := (congrArg (fun t => fxl t 56) e_107).trans rfl
theorem f_Mo_goOn_57 : fx n_Mo_goOn 57 = some (.iload 4, 59, []) := (congrArg (fun t => fxl t 57) e_107).trans rfl
theorem f_Mo_goOn_59 : fx n_Mo_goOn 59 = some (.ifCond .eq 16, 62, [75]) := (congrArg (fun t => fxl t 59) e_107).trans rfl
theorem f_Mo_goOn_62 : fx n_Mo_goOn 62 = some (.aload_n 0, 63, []) := (congrArg (fun t => fxl t 62) e_107).trans rfl
theorem f_Mo_goOn_63 : fx n_Mo_goOn 63 = some (.getfield 31, 66, [7, 14]) := (congrArg (fun t => fxl t 63) e_107).trans rfl
theorem f_Mo_goOn_66 : fx n_Mo_goOn 66 = some (.iload_n 3, 67, []) := (congrArg (fun t => fxl t 66) e_107).trans rfl
theorem f_Mo_goOn_67 : fx n_Mo_goOn 67 = some (.iaload, 68, []) := (congrArg (fun t => fxl t 67) e_107).trans rfl
theorem f_Mo_goOn_68 : fx n_Mo_goOn 68 = some (.ifCond .le 7, 71, [75]) := (congrArg (fun t => fxl t 68) e_107).trans rfl
theorem f_Mo_goOn_71 : fx n_Mo_goOn 71 = some (.iconst 1, 72, []) := (congrArg (fun t => fxl t 71) e_107).trans rfl
theorem f_Mo_goOn_72 : fx n_Mo_goOn 72 = some (.goto 4, 75, [76]) := (congrArg (fun t => fxl t 72) e_107).trans rfl
theorem f_Mo_goOn_75 : fx n_Mo_goOn 75 = some (.iconst 0, 76, []) := (congrArg (fun t => fxl t 75) e_107).trans rfl
theorem f_Mo_goOn_76 : fx n_Mo_goOn 76 = some (.isub, 77, []) := (congrArg (fun t => fxl t 76) e_107).trans rfl
theorem f_Mo_goOn_77 : fx n_Mo_goOn 77 = some (.iastore, 78, []) := (congrArg (fun t => fxl t 77) e_107).trans rfl
theorem f_Mo_goOn_78 : fx n_Mo_goOn 78 = some (.iinc 2 1, 81, []) := (congrArg (fun t => fxl t 78) e_107).trans rfl
theorem f_Mo_goOn_81 : fx n_Mo_goOn 81 = some (.goto (-79), 84, [2]) := (congrArg (fun t => fxl t 81) e_107).trans rfl
theorem f_Mo_goOn_84 : fx n_Mo_goOn 84 = some (.iconst 0, 85, []) := (congrArg (fun t => fxl t 84) e_107).trans rfl
theorem f_Mo_goOn_85 : fx n_Mo_goOn 85 = some (.istore_n 2, 86, []) := (congrArg (fun t => fxl t 85) e_107).trans rfl
theorem f_Mo_goOn_86 : fx n_Mo_goOn 86 = some (.iload_n 2, 87, []) := (congrArg (fun t => fxl t 86) e_107).trans rfl
theorem f_Mo_goOn_87 : fx n_Mo_goOn 87 = some (.aload_n 0, 88, []) := (congrArg (fun t => fxl t 87) e_107).trans rfl
theorem f_Mo_goOn_88 : fx n_Mo_goOn 88 = some (.getfield 104, 91, [7, 3]) := (congrArg (fun t => fxl t 88) e_107).trans rfl
theorem f_Mo_goOn_91 : fx n_Mo_goOn 91 = some (.if_icmp .ge 48, 94, [139]) := (congrArg (fun t => fxl t 91) e_107).trans rfl
theorem f_Mo_goOn_94 : fx n_Mo_goOn 94 = some (.iload_n 1, 95, []) := (congrArg (fun t => fxl t 94) e_107).trans rfl
theorem f_Mo_goOn_95 : fx n_Mo_goOn 95 = some (.iconst 3, 96, []) := (congrArg (fun t => fxl t 95) e_107).trans rfl
theorem f_Mo_goOn_96 : fx n_Mo_goOn 96 = some (.irem, 97, []) := (congrArg (fun t => fxl t 96) e_107).trans rfl
theorem f_Mo_goOn_97 : fx n_Mo_goOn 97 = some (.ifCond .ne 42, 100, [139]) := (congrArg (fun t => fxl t 97) e_107).trans rfl
theorem f_Mo_goOn_100 : fx n_Mo_goOn 100 = some (.aload_n 0, 101, []) := (congrArg (fun t => fxl t 100) e_107).trans rfl
theorem f_Mo_goOn_101 : fx n_Mo_goOn 101 = some (.getfield 31, 104, [7, 14]) := (congrArg (fun t => fxl t 101) e_107).trans rfl
theorem f_Mo_goOn_104 : fx n_Mo_goOn 104 = some (.iload_n 2, 105, []) := (congrArg (fun t => fxl t 104) e_107).trans rfl
theorem f_Mo_goOn_105 : fx n_Mo_goOn 105 = some (.dup2, 106, []) := (congrArg (fun t => fxl t 105) e_107).trans rfl
theorem f_Mo_goOn_106 : fx n_Mo_goOn 106 = some (.iaload, 107, []) := (congrArg (fun t => fxl t 106) e_107).trans rfl
theorem f_Mo_goOn_107 : fx n_Mo_goOn 107 = some (.aload_n 0, 108, []) := (congrArg (fun t => fxl t 107) e_107).trans rfl
theorem f_Mo_goOn_108 : fx n_Mo_goOn 108 = some (.iload_n 2, 109, []) := (congrArg (fun t => fxl t 108) e_107).trans rfl
theorem f_Mo_goOn_109 : fx n_Mo_goOn 109 = some (.invokevirtual 137, 112, [105, 1]) := (congrArg (fun t => fxl t 109) e_107).trans rfl
theorem f_Mo_goOn_112 : fx n_Mo_goOn 112 = some (.ifCond .ne 18, 115, [130]) := (congrArg (fun t => fxl t 112) e_107).trans rfl
theorem f_Mo_goOn_115 : fx n_Mo_goOn 115 = some (.aload_n 0, 116, []) := (congrArg (fun t => fxl t 115) e_107).trans rfl
theorem f_Mo_goOn_116 : fx n_Mo_goOn 116 = some (.getfield 31, 119, [7, 14]) := (congrArg (fun t => fxl t 116) e_107).trans rfl
theorem f_Mo_goOn_119 : fx n_Mo_goOn 119 = some (.iload_n 2, 120, []) := (congrArg (fun t => fxl t 119) e_107).trans rfl
theorem f_Mo_goOn_120 : fx n_Mo_goOn 120 = some (.iaload, 121, []) := (congrArg (fun t => fxl t 120) e_107).trans rfl
theorem f_Mo_goOn_121 : fx n_Mo_goOn 121 = some (.bipush 9, 123, []) := (congrArg (fun t => fxl t 121) e_107).trans rfl
theorem f_Mo_goOn_123 : fx n_Mo_goOn 123 = some (.if_icmp .ge 7, 126, [130]) := (congrArg (fun t => fxl t 123) e_107).trans rfl
theorem f_Mo_goOn_126 : fx n_Mo_goOn 126 = some (.iconst 1, 127, []) := (congrArg (fun t => fxl t 126) e_107).trans rfl
theorem f_Mo_goOn_127 : fx n_Mo_goOn 127 = some (.goto 4, 130, [131]) := (congrArg (fun t => fxl t 127) e_107).trans rfl
theorem f_Mo_goOn_130 : fx n_Mo_goOn 130 = some (.iconst 0, 131, []) := (congrArg (fun t => fxl t 130) e_107).trans rfl
theorem f_Mo_goOn_131 : fx n_Mo_goOn 131 = some (.iadd, 132, []) := (congrArg (fun t => fxl t 131) e_107).trans rfl
theorem f_Mo_goOn_132 : fx n_Mo_goOn 132 = some (.iastore, 133, []) := (congrArg (fun t => fxl t 132) e_107).trans rfl
theorem f_Mo_goOn_133 : fx n_Mo_goOn 133 = some (.iinc 2 1, 136, []) := (congrArg (fun t => fxl t 133) e_107).trans rfl
theorem f_Mo_goOn_136 : fx n_Mo_goOn 136 = some (.goto (-50), 139, [86]) := (congrArg (fun t => fxl t 136) e_107).trans rfl
theorem f_Mo_goOn_139 : fx n_Mo_goOn 139 = some (.return_, 140, []) := (congrArg (fun t => fxl t 139) e_107).trans rfl
theorem f_Mo_atReach_0 : fx n_Mo_atReach 0 = some (.iconst 0, 1, []) := (congrArg (fun t => fxl t 0) e_108).trans rfl
theorem f_Mo_atReach_1 : fx n_Mo_atReach 1 = some (.istore_n 2, 2, []) := (congrArg (fun t => fxl t 1) e_108).trans rfl
theorem f_Mo_atReach_2 : fx n_Mo_atReach 2 = some (.iconst 0, 3, []) := (congrArg (fun t => fxl t 2) e_108).trans rfl
theorem f_Mo_atReach_3 : fx n_Mo_atReach 3 = some (.istore_n 3, 4, []) := (congrArg (fun t => fxl t 3) e_108).trans rfl
theorem f_Mo_atReach_4 : fx n_Mo_atReach 4 = some (.iload_n 3, 5, []) := (congrArg (fun t => fxl t 4) e_108).trans rfl
theorem f_Mo_atReach_5 : fx n_Mo_atReach 5 = some (.aload_n 0, 6, []) := (congrArg (fun t => fxl t 5) e_108).trans rfl
theorem f_Mo_atReach_6 : fx n_Mo_atReach 6 = some (.getfield 107, 9, [7, 4]) := (congrArg (fun t => fxl t 6) e_108).trans rfl
theorem f_Mo_atReach_9 : fx n_Mo_atReach 9 = some (.if_icmp .ge 29, 12, [38]) := (congrArg (fun t => fxl t 9) e_108).trans rfl
theorem f_Mo_atReach_12 : fx n_Mo_atReach 12 = some (.iload_n 2, 13, []) := (congrArg (fun t => fxl t 12) e_108).trans rfl
theorem f_Mo_atReach_13 : fx n_Mo_atReach 13 = some (.aload_n 0, 14, []) := (congrArg (fun t => fxl t 13) e_108).trans rfl
theorem f_Mo_atReach_14 : fx n_Mo_atReach 14 = some (.getfield 25, 17, [7, 12]) := (congrArg (fun t => fxl t 14) e_108).trans rfl
theorem f_Mo_atReach_17 : fx n_Mo_atReach 17 = some (.iload_n 3, 18, []) := (congrArg (fun t => fxl t 17) e_108).trans rfl
theorem f_Mo_atReach_18 : fx n_Mo_atReach 18 = some (.iaload, 19, []) := (congrArg (fun t => fxl t 18) e_108).trans rfl
theorem f_Mo_atReach_19 : fx n_Mo_atReach 19 = some (.iload_n 1, 20, []) := (congrArg (fun t => fxl t 19) e_108).trans rfl
theorem f_Mo_atReach_20 : fx n_Mo_atReach 20 = some (.if_icmp .ne 9, 23, [29]) := (congrArg (fun t => fxl t 20) e_108).trans rfl
theorem f_Mo_atReach_23 : fx n_Mo_atReach 23 = some (.iconst 1, 24, []) := (congrArg (fun t => fxl t 23) e_108).trans rfl
theorem f_Mo_atReach_24 : fx n_Mo_atReach 24 = some (.iload_n 3, 25, []) := (congrArg (fun t => fxl t 24) e_108).trans rfl
theorem f_Mo_atReach_25 : fx n_Mo_atReach 25 = some (.ishl, 26, []) := (congrArg (fun t => fxl t 25) e_108).trans rfl
theorem f_Mo_atReach_26 : fx n_Mo_atReach 26 = some (.goto 4, 29, [30]) := (congrArg (fun t => fxl t 26) e_108).trans rfl
theorem f_Mo_atReach_29 : fx n_Mo_atReach 29 = some (.iconst 0, 30, []) := (congrArg (fun t => fxl t 29) e_108).trans rfl
theorem f_Mo_atReach_30 : fx n_Mo_atReach 30 = some (.ior, 31, []) := (congrArg (fun t => fxl t 30) e_108).trans rfl
theorem f_Mo_atReach_31 : fx n_Mo_atReach 31 = some (.istore_n 2, 32, []) := (congrArg (fun t => fxl t 31) e_108).trans rfl
theorem f_Mo_atReach_32 : fx n_Mo_atReach 32 = some (.iinc 3 1, 35, []) := (congrArg (fun t => fxl t 32) e_108).trans rfl
theorem f_Mo_atReach_35 : fx n_Mo_atReach 35 = some (.goto (-31), 38, [4]) := (congrArg (fun t => fxl t 35) e_108).trans rfl
theorem f_Mo_atReach_38 : fx n_Mo_atReach 38 = some (.iload_n 2, 39, []) := (congrArg (fun t => fxl t 38) e_108).trans rfl
theorem f_Mo_atReach_39 : fx n_Mo_atReach 39 = some (.ireturn, 40, []) := (congrArg (fun t => fxl t 39) e_108).trans rfl
theorem f_Mo_isSource_0 : fx n_Mo_isSource 0 = some (.iconst 1, 1, []) := (congrArg (fun t => fxl t 0) e_109).trans rfl
theorem f_Mo_isSource_1 : fx n_Mo_isSource 1 = some (.istore_n 2, 2, []) := (congrArg (fun t => fxl t 1) e_109).trans rfl
theorem f_Mo_isSource_2 : fx n_Mo_isSource 2 = some (.iconst 0, 3, []) := (congrArg (fun t => fxl t 2) e_109).trans rfl
theorem f_Mo_isSource_3 : fx n_Mo_isSource 3 = some (.istore_n 3, 4, []) := (congrArg (fun t => fxl t 3) e_109).trans rfl
theorem f_Mo_isSource_4 : fx n_Mo_isSource 4 = some (.iload_n 3, 5, []) := (congrArg (fun t => fxl t 4) e_109).trans rfl
theorem f_Mo_isSource_5 : fx n_Mo_isSource 5 = some (.aload_n 0, 6, []) := (congrArg (fun t => fxl t 5) e_109).trans rfl
theorem f_Mo_isSource_6 : fx n_Mo_isSource 6 = some (.getfield 104, 9, [7, 3]) := (congrArg (fun t => fxl t 6) e_109).trans rfl
theorem f_Mo_isSource_9 : fx n_Mo_isSource 9 = some (.if_icmp .ge 29, 12, [38]) := (congrArg (fun t => fxl t 9) e_109).trans rfl
theorem f_Mo_isSource_12 : fx n_Mo_isSource 12 = some (.iload_n 2, 13, []) := (congrArg (fun t => fxl t 12) e_109).trans rfl
theorem f_Mo_isSource_13 : fx n_Mo_isSource 13 = some (.ifCond .eq 17, 16, [30]) := (congrArg (fun t => fxl t 13) e_109).trans rfl
theorem f_Mo_isSource_16 : fx n_Mo_isSource 16 = some (.aload_n 0, 17, []) := (congrArg (fun t => fxl t 16) e_109).trans rfl
theorem f_Mo_isSource_17 : fx n_Mo_isSource 17 = some (.getfield 22, 20, [7, 11]) := (congrArg (fun t => fxl t 17) e_109).trans rfl
theorem f_Mo_isSource_20 : fx n_Mo_isSource 20 = some (.iload_n 3, 21, []) := (congrArg (fun t => fxl t 20) e_109).trans rfl
theorem f_Mo_isSource_21 : fx n_Mo_isSource 21 = some (.iaload, 22, []) := (congrArg (fun t => fxl t 21) e_109).trans rfl
theorem f_Mo_isSource_22 : fx n_Mo_isSource 22 = some (.iload_n 1, 23, []) := (congrArg (fun t => fxl t 22) e_109).trans rfl
theorem f_Mo_isSource_23 : fx n_Mo_isSource 23 = some (.if_icmp .eq 7, 26, [30]) := (congrArg (fun t => fxl t 23) e_109).trans rfl
theorem f_Mo_isSource_26 : fx n_Mo_isSource 26 = some (.iconst 1, 27, []) := (congrArg (fun t => fxl t 26) e_109).trans rfl
theorem f_Mo_isSource_27 : fx n_Mo_isSource 27 = some (.goto 4, 30, [31]) := (congrArg (fun t => fxl t 27) e_109).trans rfl
theorem f_Mo_isSource_30 : fx n_Mo_isSource 30 = some (.iconst 0, 31, []) := (congrArg (fun t => fxl t 30) e_109).trans rfl
theorem f_Mo_isSource_31 : fx n_Mo_isSource 31 = some (.istore_n 2, 32, []) := (congrArg (fun t => fxl t 31) e_109).trans rfl
theorem f_Mo_isSource_32 : fx n_Mo_isSource 32 = some (.iinc 3 1, 35, []) := (congrArg (fun t => fxl t 32) e_109).trans rfl
theorem f_Mo_isSource_35 : fx n_Mo_isSource 35 = some (.goto (-31), 38, [4]) := (congrArg (fun t => fxl t 35) e_109).trans rfl
theorem f_Mo_isSource_38 : fx n_Mo_isSource 38 = some (.iload_n 2, 39, []) := (congrArg (fun t => fxl t 38) e_109).trans rfl
theorem f_Mo_isSource_39 : fx n_Mo_isSource 39 = some (.ireturn, 40, []) := (congrArg (fun t => fxl t 39) e_109).trans rfl
theorem f_Mo_barge_0 : fx n_Mo_barge 0 = some (.aload_n 0, 1, []) := (congrArg (fun t => fxl t 0) e_110).trans rfl
theorem f_Mo_barge_1 : fx n_Mo_barge 1 = some (.invokevirtual 126, 4, [100, 0]) := (congrArg (fun t => fxl t 1) e_110).trans rfl
theorem f_Mo_barge_4 : fx n_Mo_barge 4 = some (.aload_n 0, 5, []) := (congrArg (fun t => fxl t 4) e_110).trans rfl
theorem f_Mo_barge_5 : fx n_Mo_barge 5 = some (.getfield 28, 8, [7, 13]) := (congrArg (fun t => fxl t 5) e_110).trans rfl
theorem f_Mo_barge_8 : fx n_Mo_barge 8 = some (.iload_n 1, 9, []) := (congrArg (fun t => fxl t 8) e_110).trans rfl
theorem f_Mo_barge_9 : fx n_Mo_barge 9 = some (.iaload, 10, []) := (congrArg (fun t => fxl t 9) e_110).trans rfl
theorem f_Mo_barge_10 : fx n_Mo_barge 10 = some (.istore_n 3, 11, []) := (congrArg (fun t => fxl t 10) e_110).trans rfl
theorem f_Mo_barge_11 : fx n_Mo_barge 11 = some (.iconst 0, 12, []) := (congrArg (fun t => fxl t 11) e_110).trans rfl
theorem f_Mo_barge_12 : fx n_Mo_barge 12 = some (.istore 4, 14, []) := (congrArg (fun t => fxl t 12) e_110).trans rfl
theorem f_Mo_barge_14 : fx n_Mo_barge 14 = some (.iload_n 1, 15, []) := (congrArg (fun t => fxl t 14) e_110).trans rfl
theorem f_Mo_barge_15 : fx n_Mo_barge 15 = some (.istore 5, 17, []) := (congrArg (fun t => fxl t 15) e_110).trans rfl
theorem f_Mo_barge_17 : fx n_Mo_barge 17 = some (.iload 5, 19, []) := (congrArg (fun t => fxl t 17) e_110).trans rfl
theorem f_Mo_barge_19 : fx n_Mo_barge 19 = some (.iconst (-1), 20, []) := (congrArg (fun t => fxl t 19) e_110).trans rfl
theorem f_Mo_barge_20 : fx n_Mo_barge 20 = some (.if_icmp .eq 41, 23, [61]) := (congrArg (fun t => fxl t 20) e_110).trans rfl
theorem f_Mo_barge_23 : fx n_Mo_barge 23 = some (.aload_n 0, 24, []) := (congrArg (fun t => fxl t 23) e_110).trans rfl
theorem f_Mo_barge_24 : fx n_Mo_barge 24 = some (.getfield 28, 27, [7, 13]) := (congrArg (fun t => fxl t 24) e_110).trans rfl
theorem f_Mo_barge_27 : fx n_Mo_barge 27 = some (.iload 5, 29, []) := (congrArg (fun t => fxl t 27) e_110).trans rfl
theorem f_Mo_barge_29 : fx n_Mo_barge 29 = some (.iaload, 30, []) := (congrArg (fun t => fxl t 29) e_110).trans rfl
theorem f_Mo_barge_30 : fx n_Mo_barge 30 = some (.iload_n 3, 31, []) := (congrArg (fun t => fxl t 30) e_110).trans rfl
theorem f_Mo_barge_31 : fx n_Mo_barge 31 = some (.if_icmp .ge 13, 34, [44]) := (congrArg (fun t => fxl t 31) e_110).trans rfl
theorem f_Mo_barge_34 : fx n_Mo_barge 34 = some (.aload_n 0, 35, []) := (congrArg (fun t => fxl t 34) e_110).trans rfl
theorem f_Mo_barge_35 : fx n_Mo_barge 35 = some (.getfield 28, 38, [7, 13]) := (congrArg (fun t => fxl t 35) e_110).trans rfl
theorem f_Mo_barge_38 : fx n_Mo_barge 38 = some (.iload 5, 40, []) := (congrArg (fun t => fxl t 38) e_110).trans rfl
theorem f_Mo_barge_40 : fx n_Mo_barge 40 = some (.iaload, 41, []) := (congrArg (fun t => fxl t 40) e_110).trans rfl
theorem f_Mo_barge_41 : fx n_Mo_barge 41 = some (.goto 4, 44, [45]) := (congrArg (fun t => fxl t 41) e_110).trans rfl
theorem f_Mo_barge_44 : fx n_Mo_barge 44 = some (.iload_n 3, 45, []) := (congrArg (fun t => fxl t 44) e_110).trans rfl
theorem f_Mo_barge_45 : fx n_Mo_barge 45 = some (.istore_n 3, 46, []) := (congrArg (fun t => fxl t 45) e_110).trans rfl
theorem f_Mo_barge_46 : fx n_Mo_barge 46 = some (.iinc 4 1, 49, []) := (congrArg (fun t => fxl t 46) e_110).trans rfl
theorem f_Mo_barge_49 : fx n_Mo_barge 49 = some (.aload_n 0, 50, []) := (congrArg (fun t => fxl t 49) e_110).trans rfl
theorem f_Mo_barge_50 : fx n_Mo_barge 50 = some (.getfield 22, 53, [7, 11]) := (congrArg (fun t => fxl t 50) e_110).trans rfl
theorem f_Mo_barge_53 : fx n_Mo_barge 53 = some (.iload 5, 55, []) := (congrArg (fun t => fxl t 53) e_110).trans rfl
theorem f_Mo_barge_55 : fx n_Mo_barge 55 = some (.iaload, 56, []) := (congrArg (fun t => fxl t 55) e_110).trans rfl
theorem f_Mo_barge_56 : fx n_Mo_barge 56 = some (.istore 5, 58, []) := (congrArg (fun t => fxl t 56) e_110).trans rfl
theorem f_Mo_barge_58 : fx n_Mo_barge 58 = some (.goto (-41), 61, [17]) := (congrArg (fun t => fxl t 58) e_110).trans rfl
theorem f_Mo_barge_61 : fx n_Mo_barge 61 = some (.iload_n 2, 62, []) := (congrArg (fun t => fxl t 61) e_110).trans rfl
theorem f_Mo_barge_62 : fx n_Mo_barge 62 = some (.ifCond .ne 7, 65, [69]) := (congrArg (fun t => fxl t 62) e_110).trans rfl
theorem f_Mo_barge_65 : fx n_Mo_barge 65 = some (.iload_n 3, 66, []) := (congrArg (fun t => fxl t 65) e_110).trans rfl
theorem f_Mo_barge_66 : fx n_Mo_barge 66 = some (.goto 5, 69, [71]) := (congrArg (fun t => fxl t 66) e_110).trans rfl
theorem f_Mo_barge_69 : fx n_Mo_barge 69 = some (.iload 4, 71, []) := (congrArg (fun t => fxl t 69) e_110).trans rfl
theorem f_Mo_barge_71 : fx n_Mo_barge 71 = some (.ireturn, 72, []) := (congrArg (fun t => fxl t 71) e_110).trans rfl
theorem f_Mo_tellReach_0 : fx n_Mo_tellReach 0 = some (.iload_n 2, 1, []) := (congrArg (fun t => fxl t 0) e_111).trans rfl
theorem f_Mo_tellReach_1 : fx n_Mo_tellReach 1 = some (.tableswitch 187 0 12 #[67, 74, 81, 88, 95, 101, 116, 145, 151, 157, 163, 163, 173], 68, [188, 68, 75, 82, 89, 96, 102, 117, 146, 152, 158, 164, 164, 174]) := (congrArg (fun t => fxl t 1) e_111).trans rfl
theorem f_Mo_tellReach_68 : fx n_Mo_tellReach 68 = some (.aload_n 0, 69, []) := (congrArg (fun t => fxl t 68) e_111).trans rfl
theorem f_Mo_tellReach_69 : fx n_Mo_tellReach 69 = some (.getfield 13, 72, [7, 8]) := (congrArg (fun t => fxl t 69) e_111).trans rfl
theorem f_Mo_tellReach_72 : fx n_Mo_tellReach 72 = some (.iload_n 1, 73, []) := (congrArg (fun t => fxl t 72) e_111).trans rfl
theorem f_Mo_tellReach_73 : fx n_Mo_tellReach 73 = some (.iaload, 74, []) := (congrArg (fun t => fxl t 73) e_111).trans rfl
theorem f_Mo_tellReach_74 : fx n_Mo_tellReach 74 = some (.ireturn, 75, []) := (congrArg (fun t => fxl t 74) e_111).trans rfl
theorem f_Mo_tellReach_75 : fx n_Mo_tellReach 75 = some (.aload_n 0, 76, []) := (congrArg (fun t => fxl t 75) e_111).trans rfl
theorem f_Mo_tellReach_76 : fx n_Mo_tellReach 76 = some (.getfield 16, 79, [7, 9]) := (congrArg (fun t => fxl t 76) e_111).trans rfl
theorem f_Mo_tellReach_79 : fx n_Mo_tellReach 79 = some (.iload_n 1, 80, []) := (congrArg (fun t => fxl t 79) e_111).trans rfl
theorem f_Mo_tellReach_80 : fx n_Mo_tellReach 80 = some (.iaload, 81, []) := (congrArg (fun t => fxl t 80) e_111).trans rfl
theorem f_Mo_tellReach_81 : fx n_Mo_tellReach 81 = some (.ireturn, 82, []) := (congrArg (fun t => fxl t 81) e_111).trans rfl
theorem f_Mo_tellReach_82 : fx n_Mo_tellReach 82 = some (.aload_n 0, 83, []) := (congrArg (fun t => fxl t 82) e_111).trans rfl
theorem f_Mo_tellReach_83 : fx n_Mo_tellReach 83 = some (.getfield 19, 86, [7, 10]) := (congrArg (fun t => fxl t 83) e_111).trans rfl
theorem f_Mo_tellReach_86 : fx n_Mo_tellReach 86 = some (.iload_n 1, 87, []) := (congrArg (fun t => fxl t 86) e_111).trans rfl
theorem f_Mo_tellReach_87 : fx n_Mo_tellReach 87 = some (.iaload, 88, []) := (congrArg (fun t => fxl t 87) e_111).trans rfl
theorem f_Mo_tellReach_88 : fx n_Mo_tellReach 88 = some (.ireturn, 89, []) := (congrArg (fun t => fxl t 88) e_111).trans rfl
theorem f_Mo_tellReach_89 : fx n_Mo_tellReach 89 = some (.aload_n 0, 90, []) := (congrArg (fun t => fxl t 89) e_111).trans rfl
theorem f_Mo_tellReach_90 : fx n_Mo_tellReach 90 = some (.getfield 22, 93, [7, 11]) := (congrArg (fun t => fxl t 90) e_111).trans rfl
theorem f_Mo_tellReach_93 : fx n_Mo_tellReach 93 = some (.iload_n 1, 94, []) := (congrArg (fun t => fxl t 93) e_111).trans rfl
theorem f_Mo_tellReach_94 : fx n_Mo_tellReach 94 = some (.iaload, 95, []) := (congrArg (fun t => fxl t 94) e_111).trans rfl
theorem f_Mo_tellReach_95 : fx n_Mo_tellReach 95 = some (.ireturn, 96, []) := (congrArg (fun t => fxl t 95) e_111).trans rfl
theorem f_Mo_tellReach_96 : fx n_Mo_tellReach 96 = some (.aload_n 0, 97, []) := (congrArg (fun t => fxl t 96) e_111).trans rfl
theorem f_Mo_tellReach_97 : fx n_Mo_tellReach 97 = some (.iload_n 1, 98, []) := (congrArg (fun t => fxl t 97) e_111).trans rfl
theorem f_Mo_tellReach_98 : fx n_Mo_tellReach 98 = some (.invokevirtual 140, 101, [102, 1]) := (congrArg (fun t => fxl t 98) e_111).trans rfl
theorem f_Mo_tellReach_101 : fx n_Mo_tellReach 101 = some (.ireturn, 102, []) := (congrArg (fun t => fxl t 101) e_111).trans rfl
theorem f_Mo_tellReach_102 : fx n_Mo_tellReach 102 = some (.aload_n 0, 103, []) := (congrArg (fun t => fxl t 102) e_111).trans rfl
theorem f_Mo_tellReach_103 : fx n_Mo_tellReach 103 = some (.getfield 13, 106, [7, 8]) := (congrArg (fun t => fxl t 103) e_111).trans rfl
theorem f_Mo_tellReach_106 : fx n_Mo_tellReach 106 = some (.iload_n 1, 107, []) := (congrArg (fun t => fxl t 106) e_111).trans rfl
theorem f_Mo_tellReach_107 : fx n_Mo_tellReach 107 = some (.iaload, 108, []) := (congrArg (fun t => fxl t 107) e_111).trans rfl
theorem f_Mo_tellReach_108 : fx n_Mo_tellReach 108 = some (.aload_n 0, 109, []) := (congrArg (fun t => fxl t 108) e_111).trans rfl
theorem f_Mo_tellReach_109 : fx n_Mo_tellReach 109 = some (.iload_n 1, 110, []) := (congrArg (fun t => fxl t 109) e_111).trans rfl
theorem f_Mo_tellReach_110 : fx n_Mo_tellReach 110 = some (.invokevirtual 140, 113, [102, 1]) := (congrArg (fun t => fxl t 110) e_111).trans rfl
theorem f_Mo_tellReach_113 : fx n_Mo_tellReach 113 = some (.invokestatic 122, 116, [99, 2]) := (congrArg (fun t => fxl t 113) e_111).trans rfl
theorem f_Mo_tellReach_116 : fx n_Mo_tellReach 116 = some (.ireturn, 117, []) := (congrArg (fun t => fxl t 116) e_111).trans rfl
theorem f_Mo_tellReach_117 : fx n_Mo_tellReach 117 = some (.aload_n 0, 118, []) := (congrArg (fun t => fxl t 117) e_111).trans rfl
theorem f_Mo_tellReach_118 : fx n_Mo_tellReach 118 = some (.getfield 13, 121, [7, 8]) := (congrArg (fun t => fxl t 118) e_111).trans rfl
theorem f_Mo_tellReach_121 : fx n_Mo_tellReach 121 = some (.iload_n 1, 122, []) := (congrArg (fun t => fxl t 121) e_111).trans rfl
theorem f_Mo_tellReach_122 : fx n_Mo_tellReach 122 = some (.iaload, 123, []) := (congrArg (fun t => fxl t 122) e_111).trans rfl
theorem f_Mo_tellReach_123 : fx n_Mo_tellReach 123 = some (.aload_n 0, 124, []) := (congrArg (fun t => fxl t 123) e_111).trans rfl
theorem f_Mo_tellReach_124 : fx n_Mo_tellReach 124 = some (.iload_n 1, 125, []) := (congrArg (fun t => fxl t 124) e_111).trans rfl
theorem f_Mo_tellReach_125 : fx n_Mo_tellReach 125 = some (.invokevirtual 140, 128, [102, 1]) := (congrArg (fun t => fxl t 125) e_111).trans rfl
theorem f_Mo_tellReach_128 : fx n_Mo_tellReach 128 = some (.aload_n 0, 129, []) := (congrArg (fun t => fxl t 128) e_111).trans rfl
theorem f_Mo_tellReach_129 : fx n_Mo_tellReach 129 = some (.getfield 19, 132, [7, 10]) := (congrArg (fun t => fxl t 129) e_111).trans rfl
theorem f_Mo_tellReach_132 : fx n_Mo_tellReach 132 = some (.iload_n 1, 133, []) := (congrArg (fun t => fxl t 132) e_111).trans rfl
theorem f_Mo_tellReach_133 : fx n_Mo_tellReach 133 = some (.iaload, 134, []) := (congrArg (fun t => fxl t 133) e_111).trans rfl
theorem f_Mo_tellReach_134 : fx n_Mo_tellReach 134 = some (.invokestatic 129, 137, [101, 3]) := (congrArg (fun t => fxl t 134) e_111).trans rfl
theorem f_Mo_tellReach_137 : fx n_Mo_tellReach 137 = some (.ifCond .eq 7, 140, [144]) := (congrArg (fun t => fxl t 137) e_111).trans rfl
theorem f_Mo_tellReach_140 : fx n_Mo_tellReach 140 = some (.iconst 1, 141, []) := (congrArg (fun t => fxl t 140) e_111).trans rfl
theorem f_Mo_tellReach_141 : fx n_Mo_tellReach 141 = some (.goto 4, 144, [145]) := (congrArg (fun t => fxl t 141) e_111).trans rfl
theorem f_Mo_tellReach_144 : fx n_Mo_tellReach 144 = some (.iconst 0, 145, []) := (congrArg (fun t => fxl t 144) e_111).trans rfl
theorem f_Mo_tellReach_145 : fx n_Mo_tellReach 145 = some (.ireturn, 146, []) := (congrArg (fun t => fxl t 145) e_111).trans rfl
theorem f_Mo_tellReach_146 : fx n_Mo_tellReach 146 = some (.aload_n 0, 147, []) := (congrArg (fun t => fxl t 146) e_111).trans rfl
theorem f_Mo_tellReach_147 : fx n_Mo_tellReach 147 = some (.iload_n 1, 148, []) := (congrArg (fun t => fxl t 147) e_111).trans rfl
theorem f_Mo_tellReach_148 : fx n_Mo_tellReach 148 = some (.invokevirtual 143, 151, [108, 1]) := (congrArg (fun t => fxl t 148) e_111).trans rfl
theorem f_Mo_tellReach_151 : fx n_Mo_tellReach 151 = some (.ireturn, 152, []) := (congrArg (fun t => fxl t 151) e_111).trans rfl
theorem f_Mo_tellReach_152 : fx n_Mo_tellReach 152 = some (.aload_n 0, 153, []) := (congrArg (fun t => fxl t 152) e_111).trans rfl
theorem f_Mo_tellReach_153 : fx n_Mo_tellReach 153 = some (.iload_n 1, 154, []) := (congrArg (fun t => fxl t 153) e_111).trans rfl
theorem f_Mo_tellReach_154 : fx n_Mo_tellReach 154 = some (.invokevirtual 146, 157, [138, 1]) := (congrArg (fun t => fxl t 154) e_111).trans rfl
theorem f_Mo_tellReach_157 : fx n_Mo_tellReach 157 = some (.ireturn, 158, []) := (congrArg (fun t => fxl t 157) e_111).trans rfl
theorem f_Mo_tellReach_158 : fx n_Mo_tellReach 158 = some (.aload_n 0, 159, []) := (congrArg (fun t => fxl t 158) e_111).trans rfl
theorem f_Mo_tellReach_159 : fx n_Mo_tellReach 159 = some (.iload_n 1, 160, []) := (congrArg (fun t => fxl t 159) e_111).trans rfl
theorem f_Mo_tellReach_160 : fx n_Mo_tellReach 160 = some (.invokevirtual 149, 163, [139, 1]) := (congrArg (fun t => fxl t 160) e_111).trans rfl
theorem f_Mo_tellReach_163 : fx n_Mo_tellReach 163 = some (.ireturn, 164, []) := (congrArg (fun t => fxl t 163) e_111).trans rfl
theorem f_Mo_tellReach_164 : fx n_Mo_tellReach 164 = some (.aload_n 0, 165, []) := (congrArg (fun t => fxl t 164) e_111).trans rfl
theorem f_Mo_tellReach_165 : fx n_Mo_tellReach 165 = some (.iload_n 1, 166, []) := (congrArg (fun t => fxl t 165) e_111).trans rfl
theorem f_Mo_tellReach_166 : fx n_Mo_tellReach 166 = some (.iload_n 2, 167, []) := (congrArg (fun t => fxl t 166) e_111).trans rfl
theorem f_Mo_tellReach_167 : fx n_Mo_tellReach 167 = some (.bipush 10, 169, []) := (congrArg (fun t => fxl t 167) e_111).trans rfl
theorem f_Mo_tellReach_169 : fx n_Mo_tellReach 169 = some (.isub, 170, []) := (congrArg (fun t => fxl t 169) e_111).trans rfl
theorem f_Mo_tellReach_170 : fx n_Mo_tellReach 170 = some (.invokevirtual 152, 173, [110, 2]) := (congrArg (fun t => fxl t 170) e_111).trans rfl
theorem f_Mo_tellReach_173 : fx n_Mo_tellReach 173 = some (.ireturn, 174, []) := (congrArg (fun t => fxl t 173) e_111).trans rfl
theorem f_Mo_tellReach_174 : fx n_Mo_tellReach 174 = some (.aload_n 0, 175, []) := (congrArg (fun t => fxl t 174) e_111).trans rfl
theorem f_Mo_tellReach_175 : fx n_Mo_tellReach 175 = some (.iload_n 1, 176, []) := (congrArg (fun t => fxl t 175) e_111).trans rfl
theorem f_Mo_tellReach_176 : fx n_Mo_tellReach 176 = some (.invokevirtual 155, 179, [109, 1]) := (congrArg (fun t => fxl t 176) e_111).trans rfl
theorem f_Mo_tellReach_179 : fx n_Mo_tellReach 179 = some (.ifCond .eq 7, 182, [186]) := (congrArg (fun t => fxl t 179) e_111).trans rfl
theorem f_Mo_tellReach_182 : fx n_Mo_tellReach 182 = some (.iconst 1, 183, []) := (congrArg (fun t => fxl t 182) e_111).trans rfl
theorem f_Mo_tellReach_183 : fx n_Mo_tellReach 183 = some (.goto 4, 186, [187]) := (congrArg (fun t => fxl t 183) e_111).trans rfl
theorem f_Mo_tellReach_186 : fx n_Mo_tellReach 186 = some (.iconst 0, 187, []) := (congrArg (fun t => fxl t 186) e_111).trans rfl
theorem f_Mo_tellReach_187 : fx n_Mo_tellReach 187 = some (.ireturn, 188, []) := (congrArg (fun t => fxl t 187) e_111).trans rfl
theorem f_Mo_tellReach_188 : fx n_Mo_tellReach 188 = some (.bipush (-102), 190, []) := (congrArg (fun t => fxl t 188) e_111).trans rfl
theorem f_Mo_tellReach_190 : fx n_Mo_tellReach 190 = some (.ireturn, 191, []) := (congrArg (fun t => fxl t 190) e_111).trans rfl
theorem f_Mo_reach_0 : fx n_Mo_reach 0 = some (.aload_n 0, 1, []) := (congrArg (fun t => fxl t 0) e_112).trans rfl
theorem f_Mo_reach_1 : fx n_Mo_reach 1 = some (.iload_n 1, 2, []) := (congrArg (fun t => fxl t 1) e_112).trans rfl
theorem f_Mo_reach_2 : fx n_Mo_reach 2 = some (.invokevirtual 158, 5, [97, 1]) := (congrArg (fun t => fxl t 2) e_112).trans rfl
theorem f_Mo_reach_5 : fx n_Mo_reach 5 = some (.ifCond .eq 12, 8, [17]) := (congrArg (fun t => fxl t 5) e_112).trans rfl
theorem f_Mo_reach_8 : fx n_Mo_reach 8 = some (.aload_n 0, 9, []) := (congrArg (fun t => fxl t 8) e_112).trans rfl
theorem f_Mo_reach_9 : fx n_Mo_reach 9 = some (.iload_n 1, 10, []) := (congrArg (fun t => fxl t 9) e_112).trans rfl
theorem f_Mo_reach_10 : fx n_Mo_reach 10 = some (.iload_n 2, 11, []) := (congrArg (fun t => fxl t 10) e_112).trans rfl
theorem f_Mo_reach_11 : fx n_Mo_reach 11 = some (.invokevirtual 161, 14, [111, 2]) := (congrArg (fun t => fxl t 11) e_112).trans rfl
theorem f_Mo_reach_14 : fx n_Mo_reach 14 = some (.goto 5, 17, [19]) := (congrArg (fun t => fxl t 14) e_112).trans rfl
theorem f_Mo_reach_17 : fx n_Mo_reach 17 = some (.bipush (-101), 19, []) := (congrArg (fun t => fxl t 17) e_112).trans rfl
theorem f_Mo_reach_19 : fx n_Mo_reach 19 = some (.ireturn, 20, []) := (congrArg (fun t => fxl t 19) e_112).trans rfl
theorem f_Mo_as_0 : fx n_Mo_as 0 = some (.aload_n 0, 1, []) := (congrArg (fun t => fxl t 0) e_113).trans rfl
theorem f_Mo_as_1 : fx n_Mo_as 1 = some (.iload_n 1, 2, []) := (congrArg (fun t => fxl t 1) e_113).trans rfl
theorem f_Mo_as_2 : fx n_Mo_as 2 = some (.invokevirtual 158, 5, [97, 1]) := (congrArg (fun t => fxl t 2) e_113).trans rfl
theorem f_Mo_as_5 : fx n_Mo_as 5 = some (.ifCond .ne 6, 8, [11]) := (congrArg (fun t => fxl t 5) e_113).trans rfl
theorem f_Mo_as_8 : fx n_Mo_as 8 = some (.bipush (-101), 10, []) := (congrArg (fun t => fxl t 8) e_113).trans rfl
theorem f_Mo_as_10 : fx n_Mo_as 10 = some (.ireturn, 11, []) := (congrArg (fun t => fxl t 10) e_113).trans rfl
theorem f_Mo_as_11 : fx n_Mo_as 11 = some (.iload_n 2, 12, []) := (congrArg (fun t => fxl t 11) e_113).trans rfl
theorem f_Mo_as_12 : fx n_Mo_as 12 = some (.i2l, 13, []) := (congrArg (fun t => fxl t 12) e_113).trans rfl
theorem f_Mo_as_13 : fx n_Mo_as 13 = some (.lconst 0, 14, []) := (congrArg (fun t => fxl t 13) e_113).trans rfl
theorem f_Mo_as_14 : fx n_Mo_as 14 = some (.ldc2_w 164, 17, []) := (congrArg (fun t => fxl t 14) e_113).trans rfl
theorem f_Mo_as_17 : fx n_Mo_as 17 = some (.invokestatic 73, 20, [85, 3]) := (congrArg (fun t => fxl t 17) e_113).trans rfl
theorem f_Mo_as_20 : fx n_Mo_as 20 = some (.ifCond .ne 6, 23, [26]) := (congrArg (fun t => fxl t 20) e_113).trans rfl
theorem f_Mo_as_23 : fx n_Mo_as 23 = some (.bipush (-102), 25, []) := (congrArg (fun t => fxl t 23) e_113).trans rfl
theorem f_Mo_as_25 : fx n_Mo_as 25 = some (.ireturn, 26, []) := (congrArg (fun t => fxl t 25) e_113).trans rfl
theorem f_Mo_as_26 : fx n_Mo_as 26 = some (.iload_n 2, 27, []) := (congrArg (fun t => fxl t 26) e_113).trans rfl
theorem f_Mo_as_27 : fx n_Mo_as 27 = some (.ifCond .eq 28, 30, [55]) := (congrArg (fun t => fxl t 27) e_113).trans rfl
theorem f_Mo_as_30 : fx n_Mo_as 30 = some (.iload_n 2, 31, []) := (congrArg (fun t => fxl t 30) e_113).trans rfl
theorem f_Mo_as_31 : fx n_Mo_as 31 = some (.aload_n 0, 32, []) := (congrArg (fun t => fxl t 31) e_113).trans rfl
theorem f_Mo_as_32 : fx n_Mo_as 32 = some (.getfield 13, 35, [7, 8]) := (congrArg (fun t => fxl t 32) e_113).trans rfl
theorem f_Mo_as_35 : fx n_Mo_as 35 = some (.iload_n 1, 36, []) := (congrArg (fun t => fxl t 35) e_113).trans rfl
theorem f_Mo_as_36 : fx n_Mo_as 36 = some (.iaload, 37, []) := (congrArg (fun t => fxl t 36) e_113).trans rfl
theorem f_Mo_as_37 : fx n_Mo_as 37 = some (.if_icmp .eq 18, 40, [55]) := (congrArg (fun t => fxl t 37) e_113).trans rfl
theorem f_Mo_as_40 : fx n_Mo_as 40 = some (.iload_n 2, 41, []) := (congrArg (fun t => fxl t 40) e_113).trans rfl
theorem f_Mo_as_41 : fx n_Mo_as 41 = some (.iconst 1, 42, []) := (congrArg (fun t => fxl t 41) e_113).trans rfl
theorem f_Mo_as_42 : fx n_Mo_as 42 = some (.if_icmp .ne 17, 45, [59]) := (congrArg (fun t => fxl t 42) e_113).trans rfl
theorem f_Mo_as_45 : fx n_Mo_as 45 = some (.aload_n 0, 46, []) := (congrArg (fun t => fxl t 45) e_113).trans rfl
theorem f_Mo_as_46 : fx n_Mo_as 46 = some (.getfield 13, 49, [7, 8]) := (congrArg (fun t => fxl t 46) e_113).trans rfl
theorem f_Mo_as_49 : fx n_Mo_as 49 = some (.iload_n 1, 50, []) := (congrArg (fun t => fxl t 49) e_113).trans rfl
theorem f_Mo_as_50 : fx n_Mo_as 50 = some (.iaload, 51, []) := (congrArg (fun t => fxl t 50) e_113).trans rfl
theorem f_Mo_as_51 : fx n_Mo_as 51 = some (.iconst 4, 52, []) := (congrArg (fun t => fxl t 51) e_113).trans rfl
theorem f_Mo_as_52 : fx n_Mo_as 52 = some (.if_icmp .ne 7, 55, [59]) := (congrArg (fun t => fxl t 52) e_113).trans rfl
theorem f_Mo_as_55 : fx n_Mo_as 55 = some (.iconst 1, 56, []) := (congrArg (fun t => fxl t 55) e_113).trans rfl
theorem f_Mo_as_56 : fx n_Mo_as 56 = some (.goto 4, 59, [60]) := (congrArg (fun t => fxl t 56) e_113).trans rfl
theorem f_Mo_as_59 : fx n_Mo_as 59 = some (.iconst 0, 60, []) := (congrArg (fun t => fxl t 59) e_113).trans rfl
theorem f_Mo_as_60 : fx n_Mo_as 60 = some (.istore_n 3, 61, []) := (congrArg (fun t => fxl t 60) e_113).trans rfl
theorem f_Mo_as_61 : fx n_Mo_as 61 = some (.iload_n 3, 62, []) := (congrArg (fun t => fxl t 61) e_113).trans rfl
theorem f_Mo_as_62 : fx n_Mo_as 62 = some (.ifCond .eq 7, 65, [69]) := (congrArg (fun t => fxl t 62) e_113).trans rfl
theorem f_Mo_as_65 : fx n_Mo_as 65 = some (.iload_n 1, 66, []) := (congrArg (fun t => fxl t 65) e_113).trans rfl
theorem f_Mo_as_66 : fx n_Mo_as 66 = some (.goto 4, 69, [70]) := (congrArg (fun t => fxl t 66) e_113).trans rfl
theorem f_Mo_as_69 : fx n_Mo_as 69 = some (.iconst (-1), 70, []) := (congrArg (fun t => fxl t 69) e_113).trans rfl
theorem f_Mo_as_70 : fx n_Mo_as 70 = some (.ireturn, 71, []) := (congrArg (fun t => fxl t 70) e_113).trans rfl
theorem f_Mo_governess_0 : fx n_Mo_governess 0 = some (.aload_n 0, 1, []) := (congrArg (fun t => fxl t 0) e_114).trans rfl
theorem f_Mo_governess_1 : fx n_Mo_governess 1 = some (.iload_n 1, 2, []) := (congrArg (fun t => fxl t 1) e_114).trans rfl
theorem f_Mo_governess_2 : fx n_Mo_governess 2 = some (.invokevirtual 166, 5, [98, 1]) := (congrArg (fun t => fxl t 2) e_114).trans rfl
theorem f_Mo_governess_5 : fx n_Mo_governess 5 = some (.ifCond .eq 12, 8, [17]) := (congrArg (fun t => fxl t 5) e_114).trans rfl
theorem f_Mo_governess_8 : fx n_Mo_governess 8 = some (.aload_n 0, 9, []) := (congrArg (fun t => fxl t 8) e_114).trans rfl
theorem f_Mo_governess_9 : fx n_Mo_governess 9 = some (.getfield 25, 12, [7, 12]) := (congrArg (fun t => fxl t 9) e_114).trans rfl
theorem f_Mo_governess_12 : fx n_Mo_governess 12 = some (.iload_n 1, 13, []) := (congrArg (fun t => fxl t 12) e_114).trans rfl
theorem f_Mo_governess_13 : fx n_Mo_governess 13 = some (.iaload, 14, []) := (congrArg (fun t => fxl t 13) e_114).trans rfl
theorem f_Mo_governess_14 : fx n_Mo_governess 14 = some (.goto 5, 17, [19]) := (congrArg (fun t => fxl t 14) e_114).trans rfl
theorem f_Mo_governess_17 : fx n_Mo_governess 17 = some (.bipush (-101), 19, []) := (congrArg (fun t => fxl t 17) e_114).trans rfl
theorem f_Mo_governess_19 : fx n_Mo_governess 19 = some (.ireturn, 20, []) := (congrArg (fun t => fxl t 19) e_114).trans rfl
theorem f_Mo_send_0 : fx n_Mo_send 0 = some (.aload_n 0, 1, []) := (congrArg (fun t => fxl t 0) e_115).trans rfl
theorem f_Mo_send_1 : fx n_Mo_send 1 = some (.iload_n 1, 2, []) := (congrArg (fun t => fxl t 1) e_115).trans rfl
theorem f_Mo_send_2 : fx n_Mo_send 2 = some (.invokevirtual 166, 5, [98, 1]) := (congrArg (fun t => fxl t 2) e_115).trans rfl
theorem f_Mo_send_5 : fx n_Mo_send 5 = some (.ifCond .eq 11, 8, [16]) := (congrArg (fun t => fxl t 5) e_115).trans rfl
theorem f_Mo_send_8 : fx n_Mo_send 8 = some (.aload_n 0, 9, []) := (congrArg (fun t => fxl t 8) e_115).trans rfl
theorem f_Mo_send_9 : fx n_Mo_send 9 = some (.iload_n 2, 10, []) := (congrArg (fun t => fxl t 9) e_115).trans rfl
theorem f_Mo_send_10 : fx n_Mo_send 10 = some (.invokevirtual 158, 13, [97, 1]) := (congrArg (fun t => fxl t 10) e_115).trans rfl
theorem f_Mo_send_13 : fx n_Mo_send 13 = some (.ifCond .ne 6, 16, [19]) := (congrArg (fun t => fxl t 13) e_115).trans rfl
theorem f_Mo_send_16 : fx n_Mo_send 16 = some (.bipush (-101), 18, []) := (congrArg (fun t => fxl t 16) e_115).trans rfl
theorem f_Mo_send_18 : fx n_Mo_send 18 = some (.ireturn, 19, []) := (congrArg (fun t => fxl t 18) e_115).trans rfl
theorem f_Mo_send_19 : fx n_Mo_send 19 = some (.aload_n 0, 20, []) := (congrArg (fun t => fxl t 19) e_115).trans rfl
theorem f_Mo_send_20 : fx n_Mo_send 20 = some (.getfield 25, 23, [7, 12]) := (congrArg (fun t => fxl t 20) e_115).trans rfl
theorem f_Mo_send_23 : fx n_Mo_send 23 = some (.iload_n 1, 24, []) := (congrArg (fun t => fxl t 23) e_115).trans rfl
theorem f_Mo_send_24 : fx n_Mo_send 24 = some (.iaload, 25, []) := (congrArg (fun t => fxl t 24) e_115).trans rfl
theorem f_Mo_send_25 : fx n_Mo_send 25 = some (.istore_n 3, 26, []) := (congrArg (fun t => fxl t 25) e_115).trans rfl
theorem f_Mo_send_26 : fx n_Mo_send 26 = some (.aload_n 0, 27, []) := (congrArg (fun t => fxl t 26) e_115).trans rfl
theorem f_Mo_send_27 : fx n_Mo_send 27 = some (.getfield 25, 30, [7, 12]) := (congrArg (fun t => fxl t 27) e_115).trans rfl
theorem f_Mo_send_30 : fx n_Mo_send 30 = some (.iload_n 1, 31, []) := (congrArg (fun t => fxl t 30) e_115).trans rfl
theorem f_Mo_send_31 : fx n_Mo_send 31 = some (.iload_n 2, 32, []) := (congrArg (fun t => fxl t 31) e_115).trans rfl
theorem f_Mo_send_32 : fx n_Mo_send 32 = some (.iastore, 33, []) := (congrArg (fun t => fxl t 32) e_115).trans rfl
theorem f_Mo_send_33 : fx n_Mo_send 33 = some (.iload_n 3, 34, []) := (congrArg (fun t => fxl t 33) e_115).trans rfl
theorem f_Mo_send_34 : fx n_Mo_send 34 = some (.ireturn, 35, []) := (congrArg (fun t => fxl t 34) e_115).trans rfl
theorem f_Mo_month_0 : fx n_Mo_month 0 = some (.aload_n 0, 1, []) := (congrArg (fun t => fxl t 0) e_116).trans rfl
theorem f_Mo_month_1 : fx n_Mo_month 1 = some (.invokevirtual 169, 4, [96, 0]) := (congrArg (fun t => fxl t 1) e_116).trans rfl
theorem f_Mo_month_4 : fx n_Mo_month 4 = some (.ifCond .eq 6, 7, [10]) := (congrArg (fun t => fxl t 4) e_116).trans rfl
theorem f_Mo_month_7 : fx n_Mo_month 7 = some (.bipush (-103), 9, []) := (congrArg (fun t => fxl t 7) e_116).trans rfl
theorem f_Mo_month_9 : fx n_Mo_month 9 = some (.ireturn, 10, []) := (congrArg (fun t => fxl t 9) e_116).trans rfl
theorem f_Mo_month_10 : fx n_Mo_month 10 = some (.aload_n 0, 11, []) := (congrArg (fun t => fxl t 10) e_116).trans rfl
theorem f_Mo_month_11 : fx n_Mo_month 11 = some (.getfield 110, 14, [7, 5]) := (congrArg (fun t => fxl t 11) e_116).trans rfl
theorem f_Mo_month_14 : fx n_Mo_month 14 = some (.sipush 999, 17, []) := (congrArg (fun t => fxl t 14) e_116).trans rfl
theorem f_Mo_month_17 : fx n_Mo_month 17 = some (.if_icmp .ne 6, 20, [23]) := (congrArg (fun t => fxl t 17) e_116).trans rfl
theorem f_Mo_month_20 : fx n_Mo_month 20 = some (.bipush (-104), 22, []) := (congrArg (fun t => fxl t 20) e_116).trans rfl
theorem f_Mo_month_22 : fx n_Mo_month 22 = some (.ireturn, 23, []) := (congrArg (fun t => fxl t 22) e_116).trans rfl
theorem f_Mo_month_23 : fx n_Mo_month 23 = some (.aload_n 0, 24, []) := (congrArg (fun t => fxl t 23) e_116).trans rfl
theorem f_Mo_month_24 : fx n_Mo_month 24 = some (.dup, 25, []) := (congrArg (fun t => fxl t 24) e_116).trans rfl
theorem f_Mo_month_25 : fx n_Mo_month 25 = some (.getfield 110, 28, [7, 5]) := (congrArg (fun t => fxl t 25) e_116).trans rfl
theorem f_Mo_month_28 : fx n_Mo_month 28 = some (.iconst 1, 29, []) := (congrArg (fun t => fxl t 28) e_116).trans rfl
theorem f_Mo_month_29 : fx n_Mo_month 29 = some (.iadd, 30, []) := (congrArg (fun t => fxl t 29) e_116).trans rfl
theorem f_Mo_month_30 : fx n_Mo_month 30 = some (.putfield 110, 33, [7, 5]) := (congrArg (fun t => fxl t 30) e_116).trans rfl
theorem f_Mo_month_33 : fx n_Mo_month 33 = some (.aload_n 0, 34, []) := (congrArg (fun t => fxl t 33) e_116).trans rfl
theorem f_Mo_month_34 : fx n_Mo_month 34 = some (.invokevirtual 173, 37, [106, 0]) := (congrArg (fun t => fxl t 34) e_116).trans rfl
theorem f_Mo_month_37 : fx n_Mo_month 37 = some (.aload_n 0, 38, []) := (congrArg (fun t => fxl t 37) e_116).trans rfl
theorem f_Mo_month_38 : fx n_Mo_month 38 = some (.aload_n 0, 39, []) := (congrArg (fun t => fxl t 38) e_116).trans rfl
theorem f_Mo_month_39 : fx n_Mo_month 39 = some (.getfield 110, 42, [7, 5]) := (congrArg (fun t => fxl t 39) e_116).trans rfl
theorem f_Mo_month_42 : fx n_Mo_month 42 = some (.invokevirtual 176, 45, [107, 1]) := (congrArg (fun t => fxl t 42) e_116).trans rfl
theorem f_Mo_month_45 : fx n_Mo_month 45 = some (.aload_n 0, 46, []) := (congrArg (fun t => fxl t 45) e_116).trans rfl
theorem f_Mo_month_46 : fx n_Mo_month 46 = some (.getfield 31, 49, [7, 14]) := (congrArg (fun t => fxl t 46) e_116).trans rfl
theorem f_Mo_month_49 : fx n_Mo_month 49 = some (.aload_n 0, 50, []) := (congrArg (fun t => fxl t 49) e_116).trans rfl
theorem f_Mo_month_50 : fx n_Mo_month 50 = some (.getfield 19, 53, [7, 10]) := (congrArg (fun t => fxl t 50) e_116).trans rfl
theorem f_Mo_month_53 : fx n_Mo_month 53 = some (.invokestatic 133, 56, [86, 2]) := (congrArg (fun t => fxl t 53) e_116).trans rfl
theorem f_Mo_month_56 : fx n_Mo_month 56 = some (.aload_n 0, 57, []) := (congrArg (fun t => fxl t 56) e_116).trans rfl
theorem f_Mo_month_57 : fx n_Mo_month 57 = some (.dup, 58, []) := (congrArg (fun t => fxl t 57) e_116).trans rfl
theorem f_Mo_month_58 : fx n_Mo_month 58 = some (.getfield 113, 61, [7, 6]) := (congrArg (fun t => fxl t 58) e_116).trans rfl
theorem f_Mo_month_61 : fx n_Mo_month 61 = some (.aload_n 0, 62, []) := (congrArg (fun t => fxl t 61) e_116).trans rfl
theorem f_Mo_month_62 : fx n_Mo_month 62 = some (.getfield 107, 65, [7, 4]) := (congrArg (fun t => fxl t 62) e_116).trans rfl
theorem f_Mo_month_65 : fx n_Mo_month 65 = some (.iadd, 66, []) := (congrArg (fun t => fxl t 65) e_116).trans rfl
theorem f_Mo_month_66 : fx n_Mo_month 66 = some (.putfield 113, 69, [7, 6]) := (congrArg (fun t => fxl t 66) e_116).trans rfl
theorem f_Mo_month_69 : fx n_Mo_month 69 = some (.aload_n 0, 70, []) := (congrArg (fun t => fxl t 69) e_116).trans rfl
theorem f_Mo_month_70 : fx n_Mo_month 70 = some (.getfield 110, 73, [7, 5]) := (congrArg (fun t => fxl t 70) e_116).trans rfl
theorem f_Mo_month_73 : fx n_Mo_month 73 = some (.ireturn, 74, []) := (congrArg (fun t => fxl t 73) e_116).trans rfl
theorem f_Mo_rain_0 : fx n_Mo_rain 0 = some (.aload_n 0, 1, []) := (congrArg (fun t => fxl t 0) e_117).trans rfl
theorem f_Mo_rain_1 : fx n_Mo_rain 1 = some (.iload_n 1, 2, []) := (congrArg (fun t => fxl t 1) e_117).trans rfl
theorem f_Mo_rain_2 : fx n_Mo_rain 2 = some (.invokevirtual 158, 5, [97, 1]) := (congrArg (fun t => fxl t 2) e_117).trans rfl
theorem f_Mo_rain_5 : fx n_Mo_rain 5 = some (.ifCond .ne 6, 8, [11]) := (congrArg (fun t => fxl t 5) e_117).trans rfl
theorem f_Mo_rain_8 : fx n_Mo_rain 8 = some (.bipush (-101), 10, []) := (congrArg (fun t => fxl t 8) e_117).trans rfl
theorem f_Mo_rain_10 : fx n_Mo_rain 10 = some (.ireturn, 11, []) := (congrArg (fun t => fxl t 10) e_117).trans rfl
theorem f_Mo_rain_11 : fx n_Mo_rain 11 = some (.iload_n 2, 12, []) := (congrArg (fun t => fxl t 11) e_117).trans rfl
theorem f_Mo_rain_12 : fx n_Mo_rain 12 = some (.i2l, 13, []) := (congrArg (fun t => fxl t 12) e_117).trans rfl
theorem f_Mo_rain_13 : fx n_Mo_rain 13 = some (.lconst 0, 14, []) := (congrArg (fun t => fxl t 13) e_117).trans rfl
theorem f_Mo_rain_14 : fx n_Mo_rain 14 = some (.ldc2_w 180, 17, []) := (congrArg (fun t => fxl t 14) e_117).trans rfl
theorem f_Mo_rain_17 : fx n_Mo_rain 17 = some (.invokestatic 73, 20, [85, 3]) := (congrArg (fun t => fxl t 17) e_117).trans rfl
theorem f_Mo_rain_20 : fx n_Mo_rain 20 = some (.ifCond .ne 6, 23, [26]) := (congrArg (fun t => fxl t 20) e_117).trans rfl
theorem f_Mo_rain_23 : fx n_Mo_rain 23 = some (.bipush (-102), 25, []) := (congrArg (fun t => fxl t 23) e_117).trans rfl
theorem f_Mo_rain_25 : fx n_Mo_rain 25 = some (.ireturn, 26, []) := (congrArg (fun t => fxl t 25) e_117).trans rfl
theorem f_Mo_rain_26 : fx n_Mo_rain 26 = some (.aload_n 0, 27, []) := (congrArg (fun t => fxl t 26) e_117).trans rfl
theorem f_Mo_rain_27 : fx n_Mo_rain 27 = some (.getfield 16, 30, [7, 9]) := (congrArg (fun t => fxl t 27) e_117).trans rfl
theorem f_Mo_rain_30 : fx n_Mo_rain 30 = some (.iload_n 1, 31, []) := (congrArg (fun t => fxl t 30) e_117).trans rfl
theorem f_Mo_rain_31 : fx n_Mo_rain 31 = some (.iaload, 32, []) := (congrArg (fun t => fxl t 31) e_117).trans rfl
theorem f_Mo_rain_32 : fx n_Mo_rain 32 = some (.istore_n 3, 33, []) := (congrArg (fun t => fxl t 32) e_117).trans rfl
theorem f_Mo_rain_33 : fx n_Mo_rain 33 = some (.aload_n 0, 34, []) := (congrArg (fun t => fxl t 33) e_117).trans rfl
theorem f_Mo_rain_34 : fx n_Mo_rain 34 = some (.getfield 16, 37, [7, 9]) := (congrArg (fun t => fxl t 34) e_117).trans rfl
theorem f_Mo_rain_37 : fx n_Mo_rain 37 = some (.iload_n 1, 38, []) := (congrArg (fun t => fxl t 37) e_117).trans rfl
theorem f_Mo_rain_38 : fx n_Mo_rain 38 = some (.iload_n 2, 39, []) := (congrArg (fun t => fxl t 38) e_117).trans rfl
theorem f_Mo_rain_39 : fx n_Mo_rain 39 = some (.iastore, 40, []) := (congrArg (fun t => fxl t 39) e_117).trans rfl
theorem f_Mo_rain_40 : fx n_Mo_rain 40 = some (.iload_n 3, 41, []) := (congrArg (fun t => fxl t 40) e_117).trans rfl
theorem f_Mo_rain_41 : fx n_Mo_rain 41 = some (.ireturn, 42, []) := (congrArg (fun t => fxl t 41) e_117).trans rfl
theorem f_Mo_make_0 : fx n_Mo_make 0 = some (.aload_n 0, 1, []) := (congrArg (fun t => fxl t 0) e_118).trans rfl
theorem f_Mo_make_1 : fx n_Mo_make 1 = some (.iload_n 1, 2, []) := (congrArg (fun t => fxl t 1) e_118).trans rfl
theorem f_Mo_make_2 : fx n_Mo_make 2 = some (.invokevirtual 158, 5, [97, 1]) := (congrArg (fun t => fxl t 2) e_118).trans rfl
theorem f_Mo_make_5 : fx n_Mo_make 5 = some (.ifCond .ne 6, 8, [11]) := (congrArg (fun t => fxl t 5) e_118).trans rfl
theorem f_Mo_make_8 : fx n_Mo_make 8 = some (.bipush (-101), 10, []) := (congrArg (fun t => fxl t 8) e_118).trans rfl
theorem f_Mo_make_10 : fx n_Mo_make 10 = some (.ireturn, 11, []) := (congrArg (fun t => fxl t 10) e_118).trans rfl
theorem f_Mo_make_11 : fx n_Mo_make 11 = some (.iload_n 2, 12, []) := (congrArg (fun t => fxl t 11) e_118).trans rfl
theorem f_Mo_make_12 : fx n_Mo_make 12 = some (.i2l, 13, []) := (congrArg (fun t => fxl t 12) e_118).trans rfl
theorem f_Mo_make_13 : fx n_Mo_make 13 = some (.lconst 0, 14, []) := (congrArg (fun t => fxl t 13) e_118).trans rfl
theorem f_Mo_make_14 : fx n_Mo_make 14 = some (.ldc2_w 164, 17, []) := (congrArg (fun t => fxl t 14) e_118).trans rfl
theorem f_Mo_make_17 : fx n_Mo_make 17 = some (.invokestatic 73, 20, [85, 3]) := (congrArg (fun t => fxl t 17) e_118).trans rfl
theorem f_Mo_make_20 : fx n_Mo_make 20 = some (.ifCond .ne 6, 23, [26]) := (congrArg (fun t => fxl t 20) e_118).trans rfl
theorem f_Mo_make_23 : fx n_Mo_make 23 = some (.bipush (-102), 25, []) := (congrArg (fun t => fxl t 23) e_118).trans rfl
theorem f_Mo_make_25 : fx n_Mo_make 25 = some (.ireturn, 26, []) := (congrArg (fun t => fxl t 25) e_118).trans rfl
theorem f_Mo_make_26 : fx n_Mo_make 26 = some (.aload_n 0, 27, []) := (congrArg (fun t => fxl t 26) e_118).trans rfl
theorem f_Mo_make_27 : fx n_Mo_make 27 = some (.getfield 13, 30, [7, 8]) := (congrArg (fun t => fxl t 27) e_118).trans rfl
theorem f_Mo_make_30 : fx n_Mo_make 30 = some (.iload_n 1, 31, []) := (congrArg (fun t => fxl t 30) e_118).trans rfl
theorem f_Mo_make_31 : fx n_Mo_make 31 = some (.iaload, 32, []) := (congrArg (fun t => fxl t 31) e_118).trans rfl
theorem f_Mo_make_32 : fx n_Mo_make 32 = some (.istore_n 3, 33, []) := (congrArg (fun t => fxl t 32) e_118).trans rfl
theorem f_Mo_make_33 : fx n_Mo_make 33 = some (.aload_n 0, 34, []) := (congrArg (fun t => fxl t 33) e_118).trans rfl
theorem f_Mo_make_34 : fx n_Mo_make 34 = some (.getfield 13, 37, [7, 8]) := (congrArg (fun t => fxl t 34) e_118).trans rfl
theorem f_Mo_make_37 : fx n_Mo_make 37 = some (.iload_n 1, 38, []) := (congrArg (fun t => fxl t 37) e_118).trans rfl
theorem f_Mo_make_38 : fx n_Mo_make 38 = some (.iload_n 2, 39, []) := (congrArg (fun t => fxl t 38) e_118).trans rfl
theorem f_Mo_make_39 : fx n_Mo_make 39 = some (.iastore, 40, []) := (congrArg (fun t => fxl t 39) e_118).trans rfl
theorem f_Mo_make_40 : fx n_Mo_make 40 = some (.iload_n 3, 41, []) := (congrArg (fun t => fxl t 40) e_118).trans rfl
theorem f_Mo_make_41 : fx n_Mo_make 41 = some (.ireturn, 42, []) := (congrArg (fun t => fxl t 41) e_118).trans rfl
theorem f_Mo_spoil_0 : fx n_Mo_spoil 0 = some (.aload_n 0, 1, []) := (congrArg (fun t => fxl t 0) e_119).trans rfl
theorem f_Mo_spoil_1 : fx n_Mo_spoil 1 = some (.iload_n 1, 2, []) := (congrArg (fun t => fxl t 1) e_119).trans rfl
theorem f_Mo_spoil_2 : fx n_Mo_spoil 2 = some (.invokevirtual 158, 5, [97, 1]) := (congrArg (fun t => fxl t 2) e_119).trans rfl
theorem f_Mo_spoil_5 : fx n_Mo_spoil 5 = some (.ifCond .ne 6, 8, [11]) := (congrArg (fun t => fxl t 5) e_119).trans rfl
theorem f_Mo_spoil_8 : fx n_Mo_spoil 8 = some (.bipush (-101), 10, []) := (congrArg (fun t => fxl t 8) e_119).trans rfl
theorem f_Mo_spoil_10 : fx n_Mo_spoil 10 = some (.ireturn, 11, []) := (congrArg (fun t => fxl t 10) e_119).trans rfl
theorem f_Mo_spoil_11 : fx n_Mo_spoil 11 = some (.iload_n 2, 12, []) := (congrArg (fun t => fxl t 11) e_119).trans rfl
theorem f_Mo_spoil_12 : fx n_Mo_spoil 12 = some (.i2l, 13, []) := (congrArg (fun t => fxl t 12) e_119).trans rfl
theorem f_Mo_spoil_13 : fx n_Mo_spoil 13 = some (.lconst 0, 14, []) := (congrArg (fun t => fxl t 13) e_119).trans rfl
theorem f_Mo_spoil_14 : fx n_Mo_spoil 14 = some (.ldc2_w 180, 17, []) := (congrArg (fun t => fxl t 14) e_119).trans rfl
theorem f_Mo_spoil_17 : fx n_Mo_spoil 17 = some (.invokestatic 73, 20, [85, 3]) := (congrArg (fun t => fxl t 17) e_119).trans rfl
theorem f_Mo_spoil_20 : fx n_Mo_spoil 20 = some (.ifCond .ne 6, 23, [26]) := (congrArg (fun t => fxl t 20) e_119).trans rfl
theorem f_Mo_spoil_23 : fx n_Mo_spoil 23 = some (.bipush (-102), 25, []) := (congrArg (fun t => fxl t 23) e_119).trans rfl
theorem f_Mo_spoil_25 : fx n_Mo_spoil 25 = some (.ireturn, 26, []) := (congrArg (fun t => fxl t 25) e_119).trans rfl
theorem f_Mo_spoil_26 : fx n_Mo_spoil 26 = some (.aload_n 0, 27, []) := (congrArg (fun t => fxl t 26) e_119).trans rfl
theorem f_Mo_spoil_27 : fx n_Mo_spoil 27 = some (.getfield 19, 30, [7, 10]) := (congrArg (fun t => fxl t 27) e_119).trans rfl
theorem f_Mo_spoil_30 : fx n_Mo_spoil 30 = some (.iload_n 1, 31, []) := (congrArg (fun t => fxl t 30) e_119).trans rfl
theorem f_Mo_spoil_31 : fx n_Mo_spoil 31 = some (.iaload, 32, []) := (congrArg (fun t => fxl t 31) e_119).trans rfl
theorem f_Mo_spoil_32 : fx n_Mo_spoil 32 = some (.istore_n 3, 33, []) := (congrArg (fun t => fxl t 32) e_119).trans rfl
theorem f_Mo_spoil_33 : fx n_Mo_spoil 33 = some (.aload_n 0, 34, []) := (congrArg (fun t => fxl t 33) e_119).trans rfl
theorem f_Mo_spoil_34 : fx n_Mo_spoil 34 = some (.getfield 19, 37, [7, 10]) := (congrArg (fun t => fxl t 34) e_119).trans rfl
theorem f_Mo_spoil_37 : fx n_Mo_spoil 37 = some (.iload_n 1, 38, []) := (congrArg (fun t => fxl t 37) e_119).trans rfl
theorem f_Mo_spoil_38 : fx n_Mo_spoil 38 = some (.iload_n 2, 39, []) := (congrArg (fun t => fxl t 38) e_119).trans rfl
theorem f_Mo_spoil_39 : fx n_Mo_spoil 39 = some (.iastore, 40, []) := (congrArg (fun t => fxl t 39) e_119).trans rfl
theorem f_Mo_spoil_40 : fx n_Mo_spoil 40 = some (.iload_n 3, 41, []) := (congrArg (fun t => fxl t 40) e_119).trans rfl
theorem f_Mo_spoil_41 : fx n_Mo_spoil 41 = some (.ireturn, 42, []) := (congrArg (fun t => fxl t 41) e_119).trans rfl
theorem f_Mo_powerOf_0 : fx n_Mo_powerOf 0 = some (.iconst 1, 1, []) := (congrArg (fun t => fxl t 0) e_120).trans rfl
theorem f_Mo_powerOf_1 : fx n_Mo_powerOf 1 = some (.istore_n 2, 2, []) := (congrArg (fun t => fxl t 1) e_120).trans rfl
theorem f_Mo_powerOf_2 : fx n_Mo_powerOf 2 = some (.iconst 0, 3, []) := (congrArg (fun t => fxl t 2) e_120).trans rfl
theorem f_Mo_powerOf_3 : fx n_Mo_powerOf 3 = some (.istore_n 3, 4, []) := (congrArg (fun t => fxl t 3) e_120).trans rfl
theorem f_Mo_powerOf_4 : fx n_Mo_powerOf 4 = some (.iload_n 3, 5, []) := (congrArg (fun t => fxl t 4) e_120).trans rfl
theorem f_Mo_powerOf_5 : fx n_Mo_powerOf 5 = some (.iload_n 1, 6, []) := (congrArg (fun t => fxl t 5) e_120).trans rfl
theorem f_Mo_powerOf_6 : fx n_Mo_powerOf 6 = some (.if_icmp .ge 16, 9, [22]) := (congrArg (fun t => fxl t 6) e_120).trans rfl
theorem f_Mo_powerOf_9 : fx n_Mo_powerOf 9 = some (.iload_n 2, 10, []) := (congrArg (fun t => fxl t 9) e_120).trans rfl
theorem f_Mo_powerOf_10 : fx n_Mo_powerOf 10 = some (.aload_n 0, 11, []) := (congrArg (fun t => fxl t 10) e_120).trans rfl
theorem f_Mo_powerOf_11 : fx n_Mo_powerOf 11 = some (.getfield 104, 14, [7, 3]) := (congrArg (fun t => fxl t 11) e_120).trans rfl
theorem f_Mo_powerOf_14 : fx n_Mo_powerOf 14 = some (.imul, 15, []) := (congrArg (fun t => fxl t 14) e_120).trans rfl
theorem f_Mo_powerOf_15 : fx n_Mo_powerOf 15 = some (.istore_n 2, 16, []) := (congrArg (fun t => fxl t 15) e_120).trans rfl
theorem f_Mo_powerOf_16 : fx n_Mo_powerOf 16 = some (.iinc 3 1, 19, []) := (congrArg (fun t => fxl t 16) e_120).trans rfl
theorem f_Mo_powerOf_19 : fx n_Mo_powerOf 19 = some (.goto (-15), 22, [4]) := (congrArg (fun t => fxl t 19) e_120).trans rfl
theorem f_Mo_powerOf_22 : fx n_Mo_powerOf 22 = some (.iload_n 2, 23, []) := (congrArg (fun t => fxl t 22) e_120).trans rfl
theorem f_Mo_powerOf_23 : fx n_Mo_powerOf 23 = some (.ireturn, 24, []) := (congrArg (fun t => fxl t 23) e_120).trans rfl
theorem f_Mo_figure_0 : fx n_Mo_figure 0 = some (.iload_n 1, 1, []) := (congrArg (fun t => fxl t 0) e_121).trans rfl
theorem f_Mo_figure_1 : fx n_Mo_figure 1 = some (.istore 4, 3, []) := (congrArg (fun t => fxl t 1) e_121).trans rfl
theorem f_Mo_figure_3 : fx n_Mo_figure 3 = some (.iload_n 3, 4, []) := (congrArg (fun t => fxl t 3) e_121).trans rfl
theorem f_Mo_figure_4 : fx n_Mo_figure 4 = some (.iconst 1, 5, []) := (congrArg (fun t => fxl t 4) e_121).trans rfl
theorem f_Mo_figure_5 : fx n_Mo_figure 5 = some (.iadd, 6, []) := (congrArg (fun t => fxl t 5) e_121).trans rfl
theorem f_Mo_figure_6 : fx n_Mo_figure 6 = some (.istore 5, 8, []) := (congrArg (fun t => fxl t 6) e_121).trans rfl
theorem f_Mo_figure_8 : fx n_Mo_figure 8 = some (.iload 5, 10, []) := (congrArg (fun t => fxl t 8) e_121).trans rfl
theorem f_Mo_figure_10 : fx n_Mo_figure 10 = some (.iload_n 2, 11, []) := (congrArg (fun t => fxl t 10) e_121).trans rfl
theorem f_Mo_figure_11 : fx n_Mo_figure 11 = some (.if_icmp .ge 18, 14, [29]) := (congrArg (fun t => fxl t 11) e_121).trans rfl
theorem f_Mo_figure_14 : fx n_Mo_figure 14 = some (.iload 4, 16, []) := (congrArg (fun t => fxl t 14) e_121).trans rfl
theorem f_Mo_figure_16 : fx n_Mo_figure 16 = some (.aload_n 0, 17, []) := (congrArg (fun t => fxl t 16) e_121).trans rfl
theorem f_Mo_figure_17 : fx n_Mo_figure 17 = some (.getfield 104, 20, [7, 3]) := (congrArg (fun t => fxl t 17) e_121).trans rfl
theorem f_Mo_figure_20 : fx n_Mo_figure 20 = some (.idiv, 21, []) := (congrArg (fun t => fxl t 20) e_121).trans rfl
theorem f_Mo_figure_21 : fx n_Mo_figure 21 = some (.istore 4, 23, []) := (congrArg (fun t => fxl t 21) e_121).trans rfl
theorem f_Mo_figure_23 : fx n_Mo_figure 23 = some (.iinc 5 1, 26, []) := (congrArg (fun t => fxl t 23) e_121).trans rfl
theorem f_Mo_figure_26 : fx n_Mo_figure 26 = some (.goto (-18), 29, [8]) := (congrArg (fun t => fxl t 26) e_121).trans rfl
theorem f_Mo_figure_29 : fx n_Mo_figure 29 = some (.iload 4, 31, []) := (congrArg (fun t => fxl t 29) e_121).trans rfl
theorem f_Mo_figure_31 : fx n_Mo_figure 31 = some (.aload_n 0, 32, []) := (congrArg (fun t => fxl t 31) e_121).trans rfl
theorem f_Mo_figure_32 : fx n_Mo_figure 32 = some (.getfield 104, 35, [7, 3]) := (congrArg (fun t => fxl t 32) e_121).trans rfl
theorem f_Mo_figure_35 : fx n_Mo_figure 35 = some (.irem, 36, []) := (congrArg (fun t => fxl t 35) e_121).trans rfl
theorem f_Mo_figure_36 : fx n_Mo_figure 36 = some (.ireturn, 37, []) := (congrArg (fun t => fxl t 36) e_121).trans rfl
theorem f_Mo_goRow_0 : fx n_Mo_goRow 0 = some (.aload_n 0, 1, []) := (congrArg (fun t => fxl t 0) e_122).trans rfl
theorem f_Mo_goRow_1 : fx n_Mo_goRow 1 = some (.invokevirtual 173, 4, [106, 0]) := (congrArg (fun t => fxl t 1) e_122).trans rfl
theorem f_Mo_goRow_4 : fx n_Mo_goRow 4 = some (.iconst 0, 5, []) := (congrArg (fun t => fxl t 4) e_122).trans rfl
theorem f_Mo_goRow_5 : fx n_Mo_goRow 5 = some (.istore 4, 7, []) := (congrArg (fun t => fxl t 5) e_122).trans rfl
theorem f_Mo_goRow_7 : fx n_Mo_goRow 7 = some (.iload 4, 9, []) := (congrArg (fun t => fxl t 7) e_122).trans rfl
theorem f_Mo_goRow_9 : fx n_Mo_goRow 9 = some (.iload_n 3, 10, []) := (congrArg (fun t => fxl t 9) e_122).trans rfl
theorem f_Mo_goRow_10 : fx n_Mo_goRow 10 = some (.if_icmp .ge 36, 13, [46]) := (congrArg (fun t => fxl t 10) e_122).trans rfl
theorem f_Mo_goRow_13 : fx n_Mo_goRow 13 = some (.aload_n 0, 14, []) := (congrArg (fun t => fxl t 13) e_122).trans rfl
theorem f_Mo_goRow_14 : fx n_Mo_goRow 14 = some (.getfield 34, 17, [7, 15]) := (congrArg (fun t => fxl t 14) e_122).trans rfl
theorem f_Mo_goRow_17 : fx n_Mo_goRow 17 = some (.iload_n 1, 18, []) := (congrArg (fun t => fxl t 17) e_122).trans rfl
theorem f_Mo_goRow_18 : fx n_Mo_goRow 18 = some (.aload_n 0, 19, []) := (congrArg (fun t => fxl t 18) e_122).trans rfl
theorem f_Mo_goRow_19 : fx n_Mo_goRow 19 = some (.iload_n 2, 20, []) := (congrArg (fun t => fxl t 19) e_122).trans rfl
theorem f_Mo_goRow_20 : fx n_Mo_goRow 20 = some (.iload_n 3, 21, []) := (congrArg (fun t => fxl t 20) e_122).trans rfl
theorem f_Mo_goRow_21 : fx n_Mo_goRow 21 = some (.iload 4, 23, []) := (congrArg (fun t => fxl t 21) e_122).trans rfl
theorem f_Mo_goRow_23 : fx n_Mo_goRow 23 = some (.invokevirtual 182, 26, [121, 3]) := (congrArg (fun t => fxl t 23) e_122).trans rfl
theorem f_Mo_goRow_26 : fx n_Mo_goRow 26 = some (.iastore, 27, []) := (congrArg (fun t => fxl t 26) e_122).trans rfl
theorem f_Mo_goRow_27 : fx n_Mo_goRow 27 = some (.aload_n 0, 28, []) := (congrArg (fun t => fxl t 27) e_122).trans rfl
theorem f_Mo_goRow_28 : fx n_Mo_goRow 28 = some (.aload_n 0, 29, []) := (congrArg (fun t => fxl t 28) e_122).trans rfl
theorem f_Mo_goRow_29 : fx n_Mo_goRow 29 = some (.getfield 110, 32, [7, 5]) := (congrArg (fun t => fxl t 29) e_122).trans rfl
theorem f_Mo_goRow_32 : fx n_Mo_goRow 32 = some (.iload 4, 34, []) := (congrArg (fun t => fxl t 32) e_122).trans rfl
theorem f_Mo_goRow_34 : fx n_Mo_goRow 34 = some (.iadd, 35, []) := (congrArg (fun t => fxl t 34) e_122).trans rfl
theorem f_Mo_goRow_35 : fx n_Mo_goRow 35 = some (.iconst 1, 36, []) := (congrArg (fun t => fxl t 35) e_122).trans rfl
theorem f_Mo_goRow_36 : fx n_Mo_goRow 36 = some (.iadd, 37, []) := (congrArg (fun t => fxl t 36) e_122).trans rfl
theorem f_Mo_goRow_37 : fx n_Mo_goRow 37 = some (.invokevirtual 176, 40, [107, 1]) := (congrArg (fun t => fxl t 37) e_122).trans rfl
theorem f_Mo_goRow_40 : fx n_Mo_goRow 40 = some (.iinc 4 1, 43, []) := (congrArg (fun t => fxl t 40) e_122).trans rfl
theorem f_Mo_goRow_43 : fx n_Mo_goRow 43 = some (.goto (-36), 46, [7]) := (congrArg (fun t => fxl t 43) e_122).trans rfl
theorem f_Mo_goRow_46 : fx n_Mo_goRow 46 = some (.return_, 47, []) := (congrArg (fun t => fxl t 46) e_122).trans rfl
theorem f_Mo_planOf_0 : fx n_Mo_planOf 0 = some (.iconst 0, 1, []) := (congrArg (fun t => fxl t 0) e_123).trans rfl
theorem f_Mo_planOf_1 : fx n_Mo_planOf 1 = some (.istore 4, 3, []) := (congrArg (fun t => fxl t 1) e_123).trans rfl
theorem f_Mo_planOf_3 : fx n_Mo_planOf 3 = some (.ldc 186, 5, []) := (congrArg (fun t => fxl t 3) e_123).trans rfl
theorem f_Mo_planOf_5 : fx n_Mo_planOf 5 = some (.istore 5, 7, []) := (congrArg (fun t => fxl t 5) e_123).trans rfl
theorem f_Mo_planOf_7 : fx n_Mo_planOf 7 = some (.iconst 0, 8, []) := (congrArg (fun t => fxl t 7) e_123).trans rfl
theorem f_Mo_planOf_8 : fx n_Mo_planOf 8 = some (.istore 6, 10, []) := (congrArg (fun t => fxl t 8) e_123).trans rfl
theorem f_Mo_planOf_10 : fx n_Mo_planOf 10 = some (.iload 6, 12, []) := (congrArg (fun t => fxl t 10) e_123).trans rfl
theorem f_Mo_planOf_12 : fx n_Mo_planOf 12 = some (.aload_n 0, 13, []) := (congrArg (fun t => fxl t 12) e_123).trans rfl
theorem f_Mo_planOf_13 : fx n_Mo_planOf 13 = some (.iload_n 2, 14, []) := (congrArg (fun t => fxl t 13) e_123).trans rfl
theorem f_Mo_planOf_14 : fx n_Mo_planOf 14 = some (.invokevirtual 187, 17, [120, 1]) := (congrArg (fun t => fxl t 14) e_123).trans rfl
theorem f_Mo_planOf_17 : fx n_Mo_planOf 17 = some (.if_icmp .ge 71, 20, [88]) := (congrArg (fun t => fxl t 17) e_123).trans rfl
theorem f_Mo_planOf_20 : fx n_Mo_planOf 20 = some (.aload_n 0, 21, []) := (congrArg (fun t => fxl t 20) e_123).trans rfl
theorem f_Mo_planOf_21 : fx n_Mo_planOf 21 = some (.iload_n 1, 22, []) := (congrArg (fun t => fxl t 21) e_123).trans rfl
theorem f_Mo_planOf_22 : fx n_Mo_planOf 22 = some (.iload 6, 24, []) := (congrArg (fun t => fxl t 22) e_123).trans rfl
theorem f_Mo_planOf_24 : fx n_Mo_planOf 24 = some (.iload_n 2, 25, []) := (congrArg (fun t => fxl t 24) e_123).trans rfl
theorem f_Mo_planOf_25 : fx n_Mo_planOf 25 = some (.invokevirtual 190, 28, [122, 3]) := (congrArg (fun t => fxl t 25) e_123).trans rfl
theorem f_Mo_planOf_28 : fx n_Mo_planOf 28 = some (.bipush 100, 30, []) := (congrArg (fun t => fxl t 28) e_123).trans rfl
theorem f_Mo_planOf_30 : fx n_Mo_planOf 30 = some (.aload_n 0, 31, []) := (congrArg (fun t => fxl t 30) e_123).trans rfl
theorem f_Mo_planOf_31 : fx n_Mo_planOf 31 = some (.aload_n 0, 32, []) := (congrArg (fun t => fxl t 31) e_123).trans rfl
theorem f_Mo_planOf_32 : fx n_Mo_planOf 32 = some (.getfield 31, 35, [7, 14]) := (congrArg (fun t => fxl t 32) e_123).trans rfl
theorem f_Mo_planOf_35 : fx n_Mo_planOf 35 = some (.invokevirtual 194, 38, [103, 1]) := (congrArg (fun t => fxl t 35) e_123).trans rfl
theorem f_Mo_planOf_38 : fx n_Mo_planOf 38 = some (.imul, 39, []) := (congrArg (fun t => fxl t 38) e_123).trans rfl
theorem f_Mo_planOf_39 : fx n_Mo_planOf 39 = some (.aload_n 0, 40, []) := (congrArg (fun t => fxl t 39) e_123).trans rfl
theorem f_Mo_planOf_40 : fx n_Mo_planOf 40 = some (.aload_n 0, 41, []) := (congrArg (fun t => fxl t 40) e_123).trans rfl
theorem f_Mo_planOf_41 : fx n_Mo_planOf 41 = some (.getfield 31, 44, [7, 14]) := (congrArg (fun t => fxl t 41) e_123).trans rfl
theorem f_Mo_planOf_44 : fx n_Mo_planOf 44 = some (.invokevirtual 198, 47, [104, 1]) := (congrArg (fun t => fxl t 44) e_123).trans rfl
theorem f_Mo_planOf_47 : fx n_Mo_planOf 47 = some (.iadd, 48, []) := (congrArg (fun t => fxl t 47) e_123).trans rfl
theorem f_Mo_planOf_48 : fx n_Mo_planOf 48 = some (.istore 7, 50, []) := (congrArg (fun t => fxl t 48) e_123).trans rfl
theorem f_Mo_planOf_50 : fx n_Mo_planOf 50 = some (.iload 7, 52, []) := (congrArg (fun t => fxl t 50) e_123).trans rfl
theorem f_Mo_planOf_52 : fx n_Mo_planOf 52 = some (.iload 5, 54, []) := (congrArg (fun t => fxl t 52) e_123).trans rfl
theorem f_Mo_planOf_54 : fx n_Mo_planOf 54 = some (.if_icmp .ge 8, 57, [62]) := (congrArg (fun t => fxl t 54) e_123).trans rfl
theorem f_Mo_planOf_57 : fx n_Mo_planOf 57 = some (.iload 6, 59, []) := (congrArg (fun t => fxl t 57) e_123).trans rfl
theorem f_Mo_planOf_59 : fx n_Mo_planOf 59 = some (.goto 5, 62, [64]) := (congrArg (fun t => fxl t 59) e_123).trans rfl
theorem f_Mo_planOf_62 : fx n_Mo_planOf 62 = some (.iload 4, 64, []) := (congrArg (fun t => fxl t 62) e_123).trans rfl
theorem f_Mo_planOf_64 : fx n_Mo_planOf 64 = some (.istore 4, 66, []) := (congrArg (fun t => fxl t 64) e_123).trans rfl
theorem f_Mo_planOf_66 : fx n_Mo_planOf 66 = some (.iload 7, 68, []) := (congrArg (fun t => fxl t 66) e_123).trans rfl
theorem f_Mo_planOf_68 : fx n_Mo_planOf 68 = some (.iload 5, 70, []) := (congrArg (fun t => fxl t 68) e_123).trans rfl
theorem f_Mo_planOf_70 : fx n_Mo_planOf 70 = some (.if_icmp .ge 8, 73, [78]) := (congrArg (fun t => fxl t 70) e_123).trans rfl
theorem f_Mo_planOf_73 : fx n_Mo_planOf 73 = some (.iload 7, 75, []) := (congrArg (fun t => fxl t 73) e_123).trans rfl
theorem f_Mo_planOf_75 : fx n_Mo_planOf 75 = some (.goto 5, 78, [80]) := (congrArg (fun t => fxl t 75) e_123).trans rfl
theorem f_Mo_planOf_78 : fx n_Mo_planOf 78 = some (.iload 5, 80, []) := (congrArg (fun t => fxl t 78) e_123).trans rfl
theorem f_Mo_planOf_80 : fx n_Mo_planOf 80 = some (.istore 5, 82, []) := (congrArg (fun t => fxl t 80) e_123).trans rfl
theorem f_Mo_planOf_82 : fx n_Mo_planOf 82 = some (.iinc 6 1, 85, []) := (congrArg (fun t => fxl t 82) e_123).trans rfl
theorem f_Mo_planOf_85 : fx n_Mo_planOf 85 = some (.goto (-75), 88, [10]) := (congrArg (fun t => fxl t 85) e_123).trans rfl
theorem f_Mo_planOf_88 : fx n_Mo_planOf 88 = some (.iload_n 3, 89, []) := (congrArg (fun t => fxl t 88) e_123).trans rfl
theorem f_Mo_planOf_89 : fx n_Mo_planOf 89 = some (.iconst 2, 90, []) := (congrArg (fun t => fxl t 89) e_123).trans rfl
theorem f_Mo_planOf_90 : fx n_Mo_planOf 90 = some (.if_icmp .ge 21, 93, [111]) := (congrArg (fun t => fxl t 90) e_123).trans rfl
theorem f_Mo_planOf_93 : fx n_Mo_planOf 93 = some (.iload_n 3, 94, []) := (congrArg (fun t => fxl t 93) e_123).trans rfl
theorem f_Mo_planOf_94 : fx n_Mo_planOf 94 = some (.ifCond .ne 11, 97, [105]) := (congrArg (fun t => fxl t 94) e_123).trans rfl
theorem f_Mo_planOf_97 : fx n_Mo_planOf 97 = some (.iload 5, 99, []) := (congrArg (fun t => fxl t 97) e_123).trans rfl
theorem f_Mo_planOf_99 : fx n_Mo_planOf 99 = some (.bipush 100, 101, []) := (congrArg (fun t => fxl t 99) e_123).trans rfl
theorem f_Mo_planOf_101 : fx n_Mo_planOf 101 = some (.idiv, 102, []) := (congrArg (fun t => fxl t 101) e_123).trans rfl
theorem f_Mo_planOf_102 : fx n_Mo_planOf 102 = some (.goto 8, 105, [110]) := (congrArg (fun t => fxl t 102) e_123).trans rfl
theorem f_Mo_planOf_105 : fx n_Mo_planOf 105 = some (.iload 5, 107, []) := (congrArg (fun t => fxl t 105) e_123).trans rfl
theorem f_Mo_planOf_107 : fx n_Mo_planOf 107 = some (.bipush 100, 109, []) := (congrArg (fun t => fxl t 107) e_123).trans rfl
theorem f_Mo_planOf_109 : fx n_Mo_planOf 109 = some (.irem, 110, []) := (congrArg (fun t => fxl t 109) e_123).trans rfl
theorem f_Mo_planOf_110 : fx n_Mo_planOf 110 = some (.ireturn, 111, []) := (congrArg (fun t => fxl t 110) e_123).trans rfl
theorem f_Mo_planOf_111 : fx n_Mo_planOf 111 = some (.iload_n 3, 112, []) := (congrArg (fun t => fxl t 111) e_123).trans rfl
theorem f_Mo_planOf_112 : fx n_Mo_planOf 112 = some (.bipush 10, 114, []) := (congrArg (fun t => fxl t 112) e_123).trans rfl
theorem f_Mo_planOf_114 : fx n_Mo_planOf 114 = some (.isub, 115, []) := (congrArg (fun t => fxl t 114) e_123).trans rfl
theorem f_Mo_planOf_115 : fx n_Mo_planOf 115 = some (.iload_n 2, 116, []) := (congrArg (fun t => fxl t 115) e_123).trans rfl
theorem f_Mo_planOf_116 : fx n_Mo_planOf 116 = some (.if_icmp .ge 17, 119, [133]) := (congrArg (fun t => fxl t 116) e_123).trans rfl
theorem f_Mo_planOf_119 : fx n_Mo_planOf 119 = some (.aload_n 0, 120, []) := (congrArg (fun t => fxl t 119) e_123).trans rfl
theorem f_Mo_planOf_120 : fx n_Mo_planOf 120 = some (.iload 4, 122, []) := (congrArg (fun t => fxl t 120) e_123).trans rfl
theorem f_Mo_planOf_122 : fx n_Mo_planOf 122 = some (.iload_n 2, 123, []) := (congrArg (fun t => fxl t 122) e_123).trans rfl
theorem f_Mo_planOf_123 : fx n_Mo_planOf 123 = some (.iload_n 3, 124, []) := (congrArg (fun t => fxl t 123) e_123).trans rfl
theorem f_Mo_planOf_124 : fx n_Mo_planOf 124 = some (.bipush 10, 126, []) := (congrArg (fun t => fxl t 124) e_123).trans rfl
theorem f_Mo_planOf_126 : fx n_Mo_planOf 126 = some (.isub, 127, []) := (congrArg (fun t => fxl t 126) e_123).trans rfl
theorem f_Mo_planOf_127 : fx n_Mo_planOf 127 = some (.invokevirtual 182, 130, [121, 3]) := (congrArg (fun t => fxl t 127) e_123).trans rfl
theorem f_Mo_planOf_130 : fx n_Mo_planOf 130 = some (.goto 4, 133, [134]) := (congrArg (fun t => fxl t 130) e_123).trans rfl
theorem f_Mo_planOf_133 : fx n_Mo_planOf 133 = some (.iconst (-1), 134, []) := (congrArg (fun t => fxl t 133) e_123).trans rfl
theorem f_Mo_planOf_134 : fx n_Mo_planOf 134 = some (.ireturn, 135, []) := (congrArg (fun t => fxl t 134) e_123).trans rfl
theorem f_Mo_plan_0 : fx n_Mo_plan 0 = some (.aload_n 0, 1, []) := (congrArg (fun t => fxl t 0) e_124).trans rfl
theorem f_Mo_plan_1 : fx n_Mo_plan 1 = some (.iload_n 1, 2, []) := (congrArg (fun t => fxl t 1) e_124).trans rfl
theorem f_Mo_plan_2 : fx n_Mo_plan 2 = some (.invokevirtual 166, 5, [98, 1]) := (congrArg (fun t => fxl t 2) e_124).trans rfl
theorem f_Mo_plan_5 : fx n_Mo_plan 5 = some (.ifCond .ne 6, 8, [11]) := (congrArg (fun t => fxl t 5) e_124).trans rfl
theorem f_Mo_plan_8 : fx n_Mo_plan 8 = some (.bipush (-101), 10, []) := (congrArg (fun t => fxl t 8) e_124).trans rfl
theorem f_Mo_plan_10 : fx n_Mo_plan 10 = some (.ireturn, 11, []) := (congrArg (fun t => fxl t 10) e_124).trans rfl
theorem f_Mo_plan_11 : fx n_Mo_plan 11 = some (.iload_n 2, 12, []) := (congrArg (fun t => fxl t 11) e_124).trans rfl
theorem f_Mo_plan_12 : fx n_Mo_plan 12 = some (.i2l, 13, []) := (congrArg (fun t => fxl t 12) e_124).trans rfl
theorem f_Mo_plan_13 : fx n_Mo_plan 13 = some (.lconst 1, 14, []) := (congrArg (fun t => fxl t 13) e_124).trans rfl
theorem f_Mo_plan_14 : fx n_Mo_plan 14 = some (.ldc2_w 164, 17, []) := (congrArg (fun t => fxl t 14) e_124).trans rfl
theorem f_Mo_plan_17 : fx n_Mo_plan 17 = some (.invokestatic 73, 20, [85, 3]) := (congrArg (fun t => fxl t 17) e_124).trans rfl
theorem f_Mo_plan_20 : fx n_Mo_plan 20 = some (.ifCond .eq 37, 23, [57]) := (congrArg (fun t => fxl t 20) e_124).trans rfl
theorem f_Mo_plan_23 : fx n_Mo_plan 23 = some (.iload_n 3, 24, []) := (congrArg (fun t => fxl t 23) e_124).trans rfl
theorem f_Mo_plan_24 : fx n_Mo_plan 24 = some (.i2l, 25, []) := (congrArg (fun t => fxl t 24) e_124).trans rfl
theorem f_Mo_plan_25 : fx n_Mo_plan 25 = some (.lconst 0, 26, []) := (congrArg (fun t => fxl t 25) e_124).trans rfl
theorem f_Mo_plan_26 : fx n_Mo_plan 26 = some (.lconst 1, 27, []) := (congrArg (fun t => fxl t 26) e_124).trans rfl
theorem f_Mo_plan_27 : fx n_Mo_plan 27 = some (.invokestatic 73, 30, [85, 3]) := (congrArg (fun t => fxl t 27) e_124).trans rfl
theorem f_Mo_plan_30 : fx n_Mo_plan 30 = some (.ifCond .ne 17, 33, [47]) := (congrArg (fun t => fxl t 30) e_124).trans rfl
theorem f_Mo_plan_33 : fx n_Mo_plan 33 = some (.iload_n 3, 34, []) := (congrArg (fun t => fxl t 33) e_124).trans rfl
theorem f_Mo_plan_34 : fx n_Mo_plan 34 = some (.i2l, 35, []) := (congrArg (fun t => fxl t 34) e_124).trans rfl
theorem f_Mo_plan_35 : fx n_Mo_plan 35 = some (.ldc2_w 201, 38, []) := (congrArg (fun t => fxl t 35) e_124).trans rfl
theorem f_Mo_plan_38 : fx n_Mo_plan 38 = some (.ldc2_w 203, 41, []) := (congrArg (fun t => fxl t 38) e_124).trans rfl
theorem f_Mo_plan_41 : fx n_Mo_plan 41 = some (.invokestatic 73, 44, [85, 3]) := (congrArg (fun t => fxl t 41) e_124).trans rfl
theorem f_Mo_plan_44 : fx n_Mo_plan 44 = some (.ifCond .eq 13, 47, [57]) := (congrArg (fun t => fxl t 44) e_124).trans rfl
theorem f_Mo_plan_47 : fx n_Mo_plan 47 = some (.aload_n 0, 48, []) := (congrArg (fun t => fxl t 47) e_124).trans rfl
theorem f_Mo_plan_48 : fx n_Mo_plan 48 = some (.iload_n 1, 49, []) := (congrArg (fun t => fxl t 48) e_124).trans rfl
theorem f_Mo_plan_49 : fx n_Mo_plan 49 = some (.iload_n 2, 50, []) := (congrArg (fun t => fxl t 49) e_124).trans rfl
theorem f_Mo_plan_50 : fx n_Mo_plan 50 = some (.iload_n 3, 51, []) := (congrArg (fun t => fxl t 50) e_124).trans rfl
theorem f_Mo_plan_51 : fx n_Mo_plan 51 = some (.invokevirtual 205, 54, [123, 3]) := (congrArg (fun t => fxl t 51) e_124).trans rfl
theorem f_Mo_plan_54 : fx n_Mo_plan 54 = some (.goto 5, 57, [59]) := (congrArg (fun t => fxl t 54) e_124).trans rfl
theorem f_Mo_plan_57 : fx n_Mo_plan 57 = some (.bipush (-102), 59, []) := (congrArg (fun t => fxl t 57) e_124).trans rfl
theorem f_Mo_plan_59 : fx n_Mo_plan 59 = some (.ireturn, 60, []) := (congrArg (fun t => fxl t 59) e_124).trans rfl
theorem f_Mo_layPlaces_0 : fx n_Mo_layPlaces 0 = some (.aload_n 0, 1, []) := (congrArg (fun t => fxl t 0) e_125).trans rfl
theorem f_Mo_layPlaces_1 : fx n_Mo_layPlaces 1 = some (.invokevirtual 173, 4, [106, 0]) := (congrArg (fun t => fxl t 1) e_125).trans rfl
theorem f_Mo_layPlaces_4 : fx n_Mo_layPlaces 4 = some (.iconst 0, 5, []) := (congrArg (fun t => fxl t 4) e_125).trans rfl
theorem f_Mo_layPlaces_5 : fx n_Mo_layPlaces 5 = some (.istore_n 2, 6, []) := (congrArg (fun t => fxl t 5) e_125).trans rfl
theorem f_Mo_layPlaces_6 : fx n_Mo_layPlaces 6 = some (.iconst 0, 7, []) := (congrArg (fun t => fxl t 6) e_125).trans rfl
theorem f_Mo_layPlaces_7 : fx n_Mo_layPlaces 7 = some (.istore_n 3, 8, []) := (congrArg (fun t => fxl t 7) e_125).trans rfl
theorem f_Mo_layPlaces_8 : fx n_Mo_layPlaces 8 = some (.iload_n 3, 9, []) := (congrArg (fun t => fxl t 8) e_125).trans rfl
theorem f_Mo_layPlaces_9 : fx n_Mo_layPlaces 9 = some (.aload_n 0, 10, []) := (congrArg (fun t => fxl t 9) e_125).trans rfl
theorem f_Mo_layPlaces_10 : fx n_Mo_layPlaces 10 = some (.getfield 107, 13, [7, 4]) := (congrArg (fun t => fxl t 10) e_125).trans rfl
theorem f_Mo_layPlaces_13 : fx n_Mo_layPlaces 13 = some (.if_icmp .ge 36, 16, [49]) := (congrArg (fun t => fxl t 13) e_125).trans rfl
theorem f_Mo_layPlaces_16 : fx n_Mo_layPlaces 16 = some (.aload_n 0, 17, []) := (congrArg (fun t => fxl t 16) e_125).trans rfl
theorem f_Mo_layPlaces_17 : fx n_Mo_layPlaces 17 = some (.getfield 34, 20, [7, 15]) := (congrArg (fun t => fxl t 17) e_125).trans rfl
theorem f_Mo_layPlaces_20 : fx n_Mo_layPlaces 20 = some (.iload_n 3, 21, []) := (congrArg (fun t => fxl t 20) e_125).trans rfl
theorem f_Mo_layPlaces_21 : fx n_Mo_layPlaces 21 = some (.aload_n 0, 22, []) := (congrArg (fun t => fxl t 21) e_125).trans rfl
theorem f_Mo_layPlaces_22 : fx n_Mo_layPlaces 22 = some (.iload_n 1, 23, []) := (congrArg (fun t => fxl t 22) e_125).trans rfl
theorem f_Mo_layPlaces_23 : fx n_Mo_layPlaces 23 = some (.aload_n 0, 24, []) := (congrArg (fun t => fxl t 23) e_125).trans rfl
theorem f_Mo_layPlaces_24 : fx n_Mo_layPlaces 24 = some (.getfield 107, 27, [7, 4]) := (congrArg (fun t => fxl t 24) e_125).trans rfl
theorem f_Mo_layPlaces_27 : fx n_Mo_layPlaces 27 = some (.iload_n 3, 28, []) := (congrArg (fun t => fxl t 27) e_125).trans rfl
theorem f_Mo_layPlaces_28 : fx n_Mo_layPlaces 28 = some (.invokevirtual 182, 31, [121, 3]) := (congrArg (fun t => fxl t 28) e_125).trans rfl
theorem f_Mo_layPlaces_31 : fx n_Mo_layPlaces 31 = some (.iastore, 32, []) := (congrArg (fun t => fxl t 31) e_125).trans rfl
theorem f_Mo_layPlaces_32 : fx n_Mo_layPlaces 32 = some (.iload_n 2, 33, []) := (congrArg (fun t => fxl t 32) e_125).trans rfl
theorem f_Mo_layPlaces_33 : fx n_Mo_layPlaces 33 = some (.iconst 1, 34, []) := (congrArg (fun t => fxl t 33) e_125).trans rfl
theorem f_Mo_layPlaces_34 : fx n_Mo_layPlaces 34 = some (.aload_n 0, 35, []) := (congrArg (fun t => fxl t 34) e_125).trans rfl
theorem f_Mo_layPlaces_35 : fx n_Mo_layPlaces 35 = some (.getfield 34, 38, [7, 15]) := (congrArg (fun t => fxl t 35) e_125).trans rfl
theorem f_Mo_layPlaces_38 : fx n_Mo_layPlaces 38 = some (.iload_n 3, 39, []) := (congrArg (fun t => fxl t 38) e_125).trans rfl
theorem f_Mo_layPlaces_39 : fx n_Mo_layPlaces 39 = some (.iaload, 40, []) := (congrArg (fun t => fxl t 39) e_125).trans rfl
theorem f_Mo_layPlaces_40 : fx n_Mo_layPlaces 40 = some (.ishl, 41, []) := (congrArg (fun t => fxl t 40) e_125).trans rfl
theorem f_Mo_layPlaces_41 : fx n_Mo_layPlaces 41 = some (.ior, 42, []) := (congrArg (fun t => fxl t 41) e_125).trans rfl
theorem f_Mo_layPlaces_42 : fx n_Mo_layPlaces 42 = some (.istore_n 2, 43, []) := (congrArg (fun t => fxl t 42) e_125).trans rfl
theorem f_Mo_layPlaces_43 : fx n_Mo_layPlaces 43 = some (.iinc 3 1, 46, []) := (congrArg (fun t => fxl t 43) e_125).trans rfl
theorem f_Mo_layPlaces_46 : fx n_Mo_layPlaces 46 = some (.goto (-38), 49, [8]) := (congrArg (fun t => fxl t 46) e_125).trans rfl
theorem f_Mo_layPlaces_49 : fx n_Mo_layPlaces 49 = some (.iload_n 2, 50, []) := (congrArg (fun t => fxl t 49) e_125).trans rfl
theorem f_Mo_layPlaces_50 : fx n_Mo_layPlaces 50 = some (.invokestatic 208, 53, [87, 1]) := (congrArg (fun t => fxl t 50) e_125).trans rfl
theorem f_Mo_layPlaces_53 : fx n_Mo_layPlaces 53 = some (.aload_n 0, 54, []) := (congrArg (fun t => fxl t 53) e_125).trans rfl
theorem f_Mo_layPlaces_54 : fx n_Mo_layPlaces 54 = some (.getfield 107, 57, [7, 4]) := (congrArg (fun t => fxl t 54) e_125).trans rfl
theorem f_Mo_layPlaces_57 : fx n_Mo_layPlaces 57 = some (.if_icmp .ne 7, 60, [64]) := (congrArg (fun t => fxl t 57) e_125).trans rfl
theorem f_Mo_layPlaces_60 : fx n_Mo_layPlaces 60 = some (.iconst 1, 61, []) := (congrArg (fun t => fxl t 60) e_125).trans rfl
theorem f_Mo_layPlaces_61 : fx n_Mo_layPlaces 61 = some (.goto 4, 64, [65]) := (congrArg (fun t => fxl t 61) e_125).trans rfl
theorem f_Mo_layPlaces_64 : fx n_Mo_layPlaces 64 = some (.iconst 0, 65, []) := (congrArg (fun t => fxl t 64) e_125).trans rfl
theorem f_Mo_layPlaces_65 : fx n_Mo_layPlaces 65 = some (.ireturn, 66, []) := (congrArg (fun t => fxl t 65) e_125).trans rfl
theorem f_Mo_placeOf_0 : fx n_Mo_placeOf 0 = some (.iconst (-1), 1, []) := (congrArg (fun t => fxl t 0) e_126).trans rfl
theorem f_Mo_placeOf_1 : fx n_Mo_placeOf 1 = some (.istore_n 2, 2, []) := (congrArg (fun t => fxl t 1) e_126).trans rfl
theorem f_Mo_placeOf_2 : fx n_Mo_placeOf 2 = some (.ldc 186, 4, []) := (congrArg (fun t => fxl t 2) e_126).trans rfl
theorem f_Mo_placeOf_4 : fx n_Mo_placeOf 4 = some (.istore_n 3, 5, []) := (congrArg (fun t => fxl t 4) e_126).trans rfl
theorem f_Mo_placeOf_5 : fx n_Mo_placeOf 5 = some (.iconst 0, 6, []) := (congrArg (fun t => fxl t 5) e_126).trans rfl
theorem f_Mo_placeOf_6 : fx n_Mo_placeOf 6 = some (.istore 4, 8, []) := (congrArg (fun t => fxl t 6) e_126).trans rfl
theorem f_Mo_placeOf_8 : fx n_Mo_placeOf 8 = some (.iload 4, 10, []) := (congrArg (fun t => fxl t 8) e_126).trans rfl
theorem f_Mo_placeOf_10 : fx n_Mo_placeOf 10 = some (.aload_n 0, 11, []) := (congrArg (fun t => fxl t 10) e_126).trans rfl
theorem f_Mo_placeOf_11 : fx n_Mo_placeOf 11 = some (.aload_n 0, 12, []) := (congrArg (fun t => fxl t 11) e_126).trans rfl
theorem f_Mo_placeOf_12 : fx n_Mo_placeOf 12 = some (.getfield 107, 15, [7, 4]) := (congrArg (fun t => fxl t 12) e_126).trans rfl
theorem f_Mo_placeOf_15 : fx n_Mo_placeOf 15 = some (.invokevirtual 187, 18, [120, 1]) := (congrArg (fun t => fxl t 15) e_126).trans rfl
theorem f_Mo_placeOf_18 : fx n_Mo_placeOf 18 = some (.if_icmp .ge 76, 21, [94]) := (congrArg (fun t => fxl t 18) e_126).trans rfl
theorem f_Mo_placeOf_21 : fx n_Mo_placeOf 21 = some (.aload_n 0, 22, []) := (congrArg (fun t => fxl t 21) e_126).trans rfl
theorem f_Mo_placeOf_22 : fx n_Mo_placeOf 22 = some (.iload 4, 24, []) := (congrArg (fun t => fxl t 22) e_126).trans rfl
theorem f_Mo_placeOf_24 : fx n_Mo_placeOf 24 = some (.invokevirtual 211, 27, [125, 1]) := (congrArg (fun t => fxl t 24) e_126).trans rfl
theorem f_Mo_placeOf_27 : fx n_Mo_placeOf 27 = some (.ifCond .eq 61, 30, [88]) := (congrArg (fun t => fxl t 27) e_126).trans rfl
theorem f_Mo_placeOf_30 : fx n_Mo_placeOf 30 = some (.aload_n 0, 31, []) := (congrArg (fun t => fxl t 30) e_126).trans rfl
theorem f_Mo_placeOf_31 : fx n_Mo_placeOf 31 = some (.aload_n 0, 32, []) := (congrArg (fun t => fxl t 31) e_126).trans rfl
theorem f_Mo_placeOf_32 : fx n_Mo_placeOf 32 = some (.getfield 110, 35, [7, 5]) := (congrArg (fun t => fxl t 32) e_126).trans rfl
theorem f_Mo_placeOf_35 : fx n_Mo_placeOf 35 = some (.iconst 1, 36, []) := (congrArg (fun t => fxl t 35) e_126).trans rfl
theorem f_Mo_placeOf_36 : fx n_Mo_placeOf 36 = some (.iadd, 37, []) := (congrArg (fun t => fxl t 36) e_126).trans rfl
theorem f_Mo_placeOf_37 : fx n_Mo_placeOf 37 = some (.invokevirtual 176, 40, [107, 1]) := (congrArg (fun t => fxl t 37) e_126).trans rfl
theorem f_Mo_placeOf_40 : fx n_Mo_placeOf 40 = some (.bipush 100, 42, []) := (congrArg (fun t => fxl t 40) e_126).trans rfl
theorem f_Mo_placeOf_42 : fx n_Mo_placeOf 42 = some (.aload_n 0, 43, []) := (congrArg (fun t => fxl t 42) e_126).trans rfl
theorem f_Mo_placeOf_43 : fx n_Mo_placeOf 43 = some (.aload_n 0, 44, []) := (congrArg (fun t => fxl t 43) e_126).trans rfl
theorem f_Mo_placeOf_44 : fx n_Mo_placeOf 44 = some (.getfield 31, 47, [7, 14]) := (congrArg (fun t => fxl t 44) e_126).trans rfl
theorem f_Mo_placeOf_47 : fx n_Mo_placeOf 47 = some (.invokevirtual 194, 50, [103, 1]) := (congrArg (fun t => fxl t 47) e_126).trans rfl
theorem f_Mo_placeOf_50 : fx n_Mo_placeOf 50 = some (.imul, 51, []) := (congrArg (fun t => fxl t 50) e_126).trans rfl
theorem f_Mo_placeOf_51 : fx n_Mo_placeOf 51 = some (.aload_n 0, 52, []) := (congrArg (fun t => fxl t 51) e_126).trans rfl
theorem f_Mo_placeOf_52 : fx n_Mo_placeOf 52 = some (.aload_n 0, 53, []) := (congrArg (fun t => fxl t 52) e_126).trans rfl
theorem f_Mo_placeOf_53 : fx n_Mo_placeOf 53 = some (.getfield 31, 56, [7, 14]) := (congrArg (fun t => fxl t 53) e_126).trans rfl
theorem f_Mo_placeOf_56 : fx n_Mo_placeOf 56 = some (.invokevirtual 198, 59, [104, 1]) := (congrArg (fun t => fxl t 56) e_126).trans rfl
theorem f_Mo_placeOf_59 : fx n_Mo_placeOf 59 = some (.iadd, 60, []) := (congrArg (fun t => fxl t 59) e_126).trans rfl
theorem f_Mo_placeOf_60 : fx n_Mo_placeOf 60 = some (.istore 5, 62, []) := (congrArg (fun t => fxl t 60) e_126).trans rfl
theorem f_Mo_placeOf_62 : fx n_Mo_placeOf 62 = some (.iload 5, 64, []) := (congrArg (fun t => fxl t 62) e_126).trans rfl
theorem f_Mo_placeOf_64 : fx n_Mo_placeOf 64 = some (.iload_n 3, 65, []) := (congrArg (fun t => fxl t 64) e_126).trans rfl
theorem f_Mo_placeOf_65 : fx n_Mo_placeOf 65 = some (.if_icmp .ge 8, 68, [73]) := (congrArg (fun t => fxl t 65) e_126).trans rfl
theorem f_Mo_placeOf_68 : fx n_Mo_placeOf 68 = some (.iload 4, 70, []) := (congrArg (fun t => fxl t 68) e_126).trans rfl
theorem f_Mo_placeOf_70 : fx n_Mo_placeOf 70 = some (.goto 4, 73, [74]) := (congrArg (fun t => fxl t 70) e_126).trans rfl
theorem f_Mo_placeOf_73 : fx n_Mo_placeOf 73 = some (.iload_n 2, 74, []) := (congrArg (fun t => fxl t 73) e_126).trans rfl
theorem f_Mo_placeOf_74 : fx n_Mo_placeOf 74 = some (.istore_n 2, 75, []) := (congrArg (fun t => fxl t 74) e_126).trans rfl
theorem f_Mo_placeOf_75 : fx n_Mo_placeOf 75 = some (.iload 5, 77, []) := (congrArg (fun t => fxl t 75) e_126).trans rfl
theorem f_Mo_placeOf_77 : fx n_Mo_placeOf 77 = some (.iload_n 3, 78, []) := (congrArg (fun t => fxl t 77) e_126).trans rfl
theorem f_Mo_placeOf_78 : fx n_Mo_placeOf 78 = some (.if_icmp .ge 8, 81, [86]) := (congrArg (fun t => fxl t 78) e_126).trans rfl
theorem f_Mo_placeOf_81 : fx n_Mo_placeOf 81 = some (.iload 5, 83, []) := (congrArg (fun t => fxl t 81) e_126).trans rfl
theorem f_Mo_placeOf_83 : fx n_Mo_placeOf 83 = some (.goto 4, 86, [87]) := (congrArg (fun t => fxl t 83) e_126).trans rfl
theorem f_Mo_placeOf_86 : fx n_Mo_placeOf 86 = some (.iload_n 3, 87, []) := (congrArg (fun t => fxl t 86) e_126).trans rfl
theorem f_Mo_placeOf_87 : fx n_Mo_placeOf 87 = some (.istore_n 3, 88, []) := (congrArg (fun t => fxl t 87) e_126).trans rfl
theorem f_Mo_placeOf_88 : fx n_Mo_placeOf 88 = some (.iinc 4 1, 91, []) := (congrArg (fun t => fxl t 88) e_126).trans rfl
theorem f_Mo_placeOf_91 : fx n_Mo_placeOf 91 = some (.goto (-83), 94, [8]) := (congrArg (fun t => fxl t 91) e_126).trans rfl
theorem f_Mo_placeOf_94 : fx n_Mo_placeOf 94 = some (.iload_n 2, 95, []) := (congrArg (fun t => fxl t 94) e_126).trans rfl
theorem f_Mo_placeOf_95 : fx n_Mo_placeOf 95 = some (.iconst (-1), 96, []) := (congrArg (fun t => fxl t 95) e_126).trans rfl
theorem f_Mo_placeOf_96 : fx n_Mo_placeOf 96 = some (.if_icmp .ne 5, 99, [101]) := (congrArg (fun t => fxl t 96) e_126).trans rfl
theorem f_Mo_placeOf_99 : fx n_Mo_placeOf 99 = some (.iconst (-1), 100, []) := (congrArg (fun t => fxl t 99) e_126).trans rfl
theorem f_Mo_placeOf_100 : fx n_Mo_placeOf 100 = some (.ireturn, 101, []) := (congrArg (fun t => fxl t 100) e_126).trans rfl
theorem f_Mo_placeOf_101 : fx n_Mo_placeOf 101 = some (.iload_n 1, 102, []) := (congrArg (fun t => fxl t 101) e_126).trans rfl
theorem f_Mo_placeOf_102 : fx n_Mo_placeOf 102 = some (.iconst 2, 103, []) := (congrArg (fun t => fxl t 102) e_126).trans rfl
theorem f_Mo_placeOf_103 : fx n_Mo_placeOf 103 = some (.if_icmp .ge 19, 106, [122]) := (congrArg (fun t => fxl t 103) e_126).trans rfl
theorem f_Mo_placeOf_106 : fx n_Mo_placeOf 106 = some (.iload_n 1, 107, []) := (congrArg (fun t => fxl t 106) e_126).trans rfl
theorem f_Mo_placeOf_107 : fx n_Mo_placeOf 107 = some (.ifCond .ne 10, 110, [117]) := (congrArg (fun t => fxl t 107) e_126).trans rfl
theorem f_Mo_placeOf_110 : fx n_Mo_placeOf 110 = some (.iload_n 3, 111, []) := (congrArg (fun t => fxl t 110) e_126).trans rfl
theorem f_Mo_placeOf_111 : fx n_Mo_placeOf 111 = some (.bipush 100, 113, []) := (congrArg (fun t => fxl t 111) e_126).trans rfl
theorem f_Mo_placeOf_113 : fx n_Mo_placeOf 113 = some (.idiv, 114, []) := (congrArg (fun t => fxl t 113) e_126).trans rfl
theorem f_Mo_placeOf_114 : fx n_Mo_placeOf 114 = some (.goto 7, 117, [121]) := (congrArg (fun t => fxl t 114) e_126).trans rfl
theorem f_Mo_placeOf_117 : fx n_Mo_placeOf 117 = some (.iload_n 3, 118, []) := (congrArg (fun t => fxl t 117) e_126).trans rfl
theorem f_Mo_placeOf_118 : fx n_Mo_placeOf 118 = some (.bipush 100, 120, []) := (congrArg (fun t => fxl t 118) e_126).trans rfl
theorem f_Mo_placeOf_120 : fx n_Mo_placeOf 120 = some (.irem, 121, []) := (congrArg (fun t => fxl t 120) e_126).trans rfl
theorem f_Mo_placeOf_121 : fx n_Mo_placeOf 121 = some (.ireturn, 122, []) := (congrArg (fun t => fxl t 121) e_126).trans rfl
theorem f_Mo_placeOf_122 : fx n_Mo_placeOf 122 = some (.iload_n 1, 123, []) := (congrArg (fun t => fxl t 122) e_126).trans rfl
theorem f_Mo_placeOf_123 : fx n_Mo_placeOf 123 = some (.bipush 10, 125, []) := (congrArg (fun t => fxl t 123) e_126).trans rfl
theorem f_Mo_placeOf_125 : fx n_Mo_placeOf 125 = some (.isub, 126, []) := (congrArg (fun t => fxl t 125) e_126).trans rfl
theorem f_Mo_placeOf_126 : fx n_Mo_placeOf 126 = some (.aload_n 0, 127, []) := (congrArg (fun t => fxl t 126) e_126).trans rfl
theorem f_Mo_placeOf_127 : fx n_Mo_placeOf 127 = some (.getfield 107, 130, [7, 4]) := (congrArg (fun t => fxl t 127) e_126).trans rfl
theorem f_Mo_placeOf_130 : fx n_Mo_placeOf 130 = some (.if_icmp .ge 19, 133, [149]) := (congrArg (fun t => fxl t 130) e_126).trans rfl
theorem f_Mo_placeOf_133 : fx n_Mo_placeOf 133 = some (.aload_n 0, 134, []) := (congrArg (fun t => fxl t 133) e_126).trans rfl
theorem f_Mo_placeOf_134 : fx n_Mo_placeOf 134 = some (.iload_n 2, 135, []) := (congrArg (fun t => fxl t 134) e_126).trans rfl
theorem f_Mo_placeOf_135 : fx n_Mo_placeOf 135 = some (.aload_n 0, 136, []) := (congrArg (fun t => fxl t 135) e_126).trans rfl
theorem f_Mo_placeOf_136 : fx n_Mo_placeOf 136 = some (.getfield 107, 139, [7, 4]) := (congrArg (fun t => fxl t 136) e_126).trans rfl
theorem f_Mo_placeOf_139 : fx n_Mo_placeOf 139 = some (.iload_n 1, 140, []) := (congrArg (fun t => fxl t 139) e_126).trans rfl
theorem f_Mo_placeOf_140 : fx n_Mo_placeOf 140 = some (.bipush 10, 142, []) := (congrArg (fun t => fxl t 140) e_126).trans rfl
theorem f_Mo_placeOf_142 : fx n_Mo_placeOf 142 = some (.isub, 143, []) := (congrArg (fun t => fxl t 142) e_126).trans rfl
theorem f_Mo_placeOf_143 : fx n_Mo_placeOf 143 = some (.invokevirtual 182, 146, [121, 3]) := (congrArg (fun t => fxl t 143) e_126).trans rfl
theorem f_Mo_placeOf_146 : fx n_Mo_placeOf 146 = some (.goto 4, 149, [150]) := (congrArg (fun t => fxl t 146) e_126).trans rfl
theorem f_Mo_placeOf_149 : fx n_Mo_placeOf 149 = some (.iconst (-1), 150, []) := (congrArg (fun t => fxl t 149) e_126).trans rfl
theorem f_Mo_placeOf_150 : fx n_Mo_placeOf 150 = some (.ireturn, 151, []) := (congrArg (fun t => fxl t 150) e_126).trans rfl
theorem f_Mo_place_0 : fx n_Mo_place 0 = some (.iload_n 1, 1, []) := (congrArg (fun t => fxl t 0) e_127).trans rfl
theorem f_Mo_place_1 : fx n_Mo_place 1 = some (.i2l, 2, []) := (congrArg (fun t => fxl t 1) e_127).trans rfl
theorem f_Mo_place_2 : fx n_Mo_place 2 = some (.lconst 0, 3, []) := (congrArg (fun t => fxl t 2) e_127).trans rfl
theorem f_Mo_place_3 : fx n_Mo_place 3 = some (.lconst 1, 4, []) := (congrArg (fun t => fxl t 3) e_127).trans rfl
theorem f_Mo_place_4 : fx n_Mo_place 4 = some (.invokestatic 73, 7, [85, 3]) := (congrArg (fun t => fxl t 4) e_127).trans rfl
theorem f_Mo_place_7 : fx n_Mo_place 7 = some (.ifCond .ne 20, 10, [27]) := (congrArg (fun t => fxl t 7) e_127).trans rfl
theorem f_Mo_place_10 : fx n_Mo_place 10 = some (.iload_n 1, 11, []) := (congrArg (fun t => fxl t 10) e_127).trans rfl
theorem f_Mo_place_11 : fx n_Mo_place 11 = some (.i2l, 12, []) := (congrArg (fun t => fxl t 11) e_127).trans rfl
theorem f_Mo_place_12 : fx n_Mo_place 12 = some (.ldc2_w 201, 15, []) := (congrArg (fun t => fxl t 12) e_127).trans rfl
theorem f_Mo_place_15 : fx n_Mo_place 15 = some (.ldc2_w 214, 18, []) := (congrArg (fun t => fxl t 15) e_127).trans rfl
theorem f_Mo_place_18 : fx n_Mo_place 18 = some (.invokestatic 73, 21, [85, 3]) := (congrArg (fun t => fxl t 18) e_127).trans rfl
theorem f_Mo_place_21 : fx n_Mo_place 21 = some (.ifCond .ne 6, 24, [27]) := (congrArg (fun t => fxl t 21) e_127).trans rfl
theorem f_Mo_place_24 : fx n_Mo_place 24 = some (.bipush (-102), 26, []) := (congrArg (fun t => fxl t 24) e_127).trans rfl
theorem f_Mo_place_26 : fx n_Mo_place 26 = some (.ireturn, 27, []) := (congrArg (fun t => fxl t 26) e_127).trans rfl
theorem f_Mo_place_27 : fx n_Mo_place 27 = some (.aload_n 0, 28, []) := (congrArg (fun t => fxl t 27) e_127).trans rfl
theorem f_Mo_place_28 : fx n_Mo_place 28 = some (.invokevirtual 169, 31, [96, 0]) := (congrArg (fun t => fxl t 28) e_127).trans rfl
theorem f_Mo_place_31 : fx n_Mo_place 31 = some (.ifCond .eq 8, 34, [39]) := (congrArg (fun t => fxl t 31) e_127).trans rfl
theorem f_Mo_place_34 : fx n_Mo_place 34 = some (.bipush (-103), 36, []) := (congrArg (fun t => fxl t 34) e_127).trans rfl
theorem f_Mo_place_36 : fx n_Mo_place 36 = some (.goto 8, 39, [44]) := (congrArg (fun t => fxl t 36) e_127).trans rfl
theorem f_Mo_place_39 : fx n_Mo_place 39 = some (.aload_n 0, 40, []) := (congrArg (fun t => fxl t 39) e_127).trans rfl
theorem f_Mo_place_40 : fx n_Mo_place 40 = some (.iload_n 1, 41, []) := (congrArg (fun t => fxl t 40) e_127).trans rfl
theorem f_Mo_place_41 : fx n_Mo_place 41 = some (.invokevirtual 216, 44, [126, 1]) := (congrArg (fun t => fxl t 41) e_127).trans rfl
theorem f_Mo_place_44 : fx n_Mo_place 44 = some (.ireturn, 45, []) := (congrArg (fun t => fxl t 44) e_127).trans rfl
theorem f_Mo_isCalm_0 : fx n_Mo_isCalm 0 = some (.iconst 0, 1, []) := (congrArg (fun t => fxl t 0) e_128).trans rfl
theorem f_Mo_isCalm_1 : fx n_Mo_isCalm 1 = some (.istore_n 2, 2, []) := (congrArg (fun t => fxl t 1) e_128).trans rfl
theorem f_Mo_isCalm_2 : fx n_Mo_isCalm 2 = some (.iload_n 2, 3, []) := (congrArg (fun t => fxl t 2) e_128).trans rfl
theorem f_Mo_isCalm_3 : fx n_Mo_isCalm 3 = some (.aload_n 0, 4, []) := (congrArg (fun t => fxl t 3) e_128).trans rfl
theorem f_Mo_isCalm_4 : fx n_Mo_isCalm 4 = some (.getfield 104, 7, [7, 3]) := (congrArg (fun t => fxl t 4) e_128).trans rfl
theorem f_Mo_isCalm_7 : fx n_Mo_isCalm 7 = some (.if_icmp .ge 34, 10, [41]) := (congrArg (fun t => fxl t 7) e_128).trans rfl
theorem f_Mo_isCalm_10 : fx n_Mo_isCalm 10 = some (.aload_n 0, 11, []) := (congrArg (fun t => fxl t 10) e_128).trans rfl
theorem f_Mo_isCalm_11 : fx n_Mo_isCalm 11 = some (.getfield 13, 14, [7, 8]) := (congrArg (fun t => fxl t 11) e_128).trans rfl
theorem f_Mo_isCalm_14 : fx n_Mo_isCalm 14 = some (.iload_n 2, 15, []) := (congrArg (fun t => fxl t 14) e_128).trans rfl
theorem f_Mo_isCalm_15 : fx n_Mo_isCalm 15 = some (.iload_n 1, 16, []) := (congrArg (fun t => fxl t 15) e_128).trans rfl
theorem f_Mo_isCalm_16 : fx n_Mo_isCalm 16 = some (.iload_n 2, 17, []) := (congrArg (fun t => fxl t 16) e_128).trans rfl
theorem f_Mo_isCalm_17 : fx n_Mo_isCalm 17 = some (.ishr, 18, []) := (congrArg (fun t => fxl t 17) e_128).trans rfl
theorem f_Mo_isCalm_18 : fx n_Mo_isCalm 18 = some (.iconst 1, 19, []) := (congrArg (fun t => fxl t 18) e_128).trans rfl
theorem f_Mo_isCalm_19 : fx n_Mo_isCalm 19 = some (.iand, 20, []) := (congrArg (fun t => fxl t 19) e_128).trans rfl
theorem f_Mo_isCalm_20 : fx n_Mo_isCalm 20 = some (.iconst 1, 21, []) := (congrArg (fun t => fxl t 20) e_128).trans rfl
theorem f_Mo_isCalm_21 : fx n_Mo_isCalm 21 = some (.if_icmp .ne 7, 24, [28]) := (congrArg (fun t => fxl t 21) e_128).trans rfl
theorem f_Mo_isCalm_24 : fx n_Mo_isCalm 24 = some (.iconst 3, 25, []) := (congrArg (fun t => fxl t 24) e_128).trans rfl
theorem f_Mo_isCalm_25 : fx n_Mo_isCalm 25 = some (.goto 9, 28, [34]) := (congrArg (fun t => fxl t 25) e_128).trans rfl
theorem f_Mo_isCalm_28 : fx n_Mo_isCalm 28 = some (.aload_n 0, 29, []) := (congrArg (fun t => fxl t 28) e_128).trans rfl
theorem f_Mo_isCalm_29 : fx n_Mo_isCalm 29 = some (.getfield 37, 32, [7, 16]) := (congrArg (fun t => fxl t 29) e_128).trans rfl
theorem f_Mo_isCalm_32 : fx n_Mo_isCalm 32 = some (.iload_n 2, 33, []) := (congrArg (fun t => fxl t 32) e_128).trans rfl
theorem f_Mo_isCalm_33 : fx n_Mo_isCalm 33 = some (.iaload, 34, []) := (congrArg (fun t => fxl t 33) e_128).trans rfl
theorem f_Mo_isCalm_34 : fx n_Mo_isCalm 34 = some (.iastore, 35, []) := (congrArg (fun t => fxl t 34) e_128).trans rfl
theorem f_Mo_isCalm_35 : fx n_Mo_isCalm 35 = some (.iinc 2 1, 38, []) := (congrArg (fun t => fxl t 35) e_128).trans rfl
theorem f_Mo_isCalm_38 : fx n_Mo_isCalm 38 = some (.goto (-36), 41, [2]) := (congrArg (fun t => fxl t 38) e_128).trans rfl
theorem f_Mo_isCalm_41 : fx n_Mo_isCalm 41 = some (.aload_n 0, 42, []) := (congrArg (fun t => fxl t 41) e_128).trans rfl
theorem f_Mo_isCalm_42 : fx n_Mo_isCalm 42 = some (.aload_n 0, 43, []) := (congrArg (fun t => fxl t 42) e_128).trans rfl
theorem f_Mo_isCalm_43 : fx n_Mo_isCalm 43 = some (.getfield 19, 46, [7, 10]) := (congrArg (fun t => fxl t 43) e_128).trans rfl
theorem f_Mo_isCalm_46 : fx n_Mo_isCalm 46 = some (.invokevirtual 194, 49, [103, 1]) := (congrArg (fun t => fxl t 46) e_128).trans rfl
theorem f_Mo_isCalm_49 : fx n_Mo_isCalm 49 = some (.ifCond .ne 7, 52, [56]) := (congrArg (fun t => fxl t 49) e_128).trans rfl
theorem f_Mo_isCalm_52 : fx n_Mo_isCalm 52 = some (.iconst 1, 53, []) := (congrArg (fun t => fxl t 52) e_128).trans rfl
theorem f_Mo_isCalm_53 : fx n_Mo_isCalm 53 = some (.goto 4, 56, [57]) := (congrArg (fun t => fxl t 53) e_128).trans rfl
theorem f_Mo_isCalm_56 : fx n_Mo_isCalm 56 = some (.iconst 0, 57, []) := (congrArg (fun t => fxl t 56) e_128).trans rfl
theorem f_Mo_isCalm_57 : fx n_Mo_isCalm 57 = some (.ireturn, 58, []) := (congrArg (fun t => fxl t 57) e_128).trans rfl
theorem f_Mo_weirsOf_0 : fx n_Mo_weirsOf 0 = some (.aload_n 0, 1, []) := (congrArg (fun t => fxl t 0) e_129).trans rfl
theorem f_Mo_weirsOf_1 : fx n_Mo_weirsOf 1 = some (.getfield 13, 4, [7, 8]) := (congrArg (fun t => fxl t 1) e_129).trans rfl
theorem f_Mo_weirsOf_4 : fx n_Mo_weirsOf 4 = some (.aload_n 0, 5, []) := (congrArg (fun t => fxl t 4) e_129).trans rfl
theorem f_Mo_weirsOf_5 : fx n_Mo_weirsOf 5 = some (.getfield 37, 8, [7, 16]) := (congrArg (fun t => fxl t 5) e_129).trans rfl
theorem f_Mo_weirsOf_8 : fx n_Mo_weirsOf 8 = some (.invokestatic 133, 11, [86, 2]) := (congrArg (fun t => fxl t 8) e_129).trans rfl
theorem f_Mo_weirsOf_11 : fx n_Mo_weirsOf 11 = some (.iconst (-1), 12, []) := (congrArg (fun t => fxl t 11) e_129).trans rfl
theorem f_Mo_weirsOf_12 : fx n_Mo_weirsOf 12 = some (.istore_n 2, 13, []) := (congrArg (fun t => fxl t 12) e_129).trans rfl
theorem f_Mo_weirsOf_13 : fx n_Mo_weirsOf 13 = some (.iconst 0, 14, []) := (congrArg (fun t => fxl t 13) e_129).trans rfl
theorem f_Mo_weirsOf_14 : fx n_Mo_weirsOf 14 = some (.istore_n 3, 15, []) := (congrArg (fun t => fxl t 14) e_129).trans rfl
theorem f_Mo_weirsOf_15 : fx n_Mo_weirsOf 15 = some (.iload_n 3, 16, []) := (congrArg (fun t => fxl t 15) e_129).trans rfl
theorem f_Mo_weirsOf_16 : fx n_Mo_weirsOf 16 = some (.iconst 1, 17, []) := (congrArg (fun t => fxl t 16) e_129).trans rfl
theorem f_Mo_weirsOf_17 : fx n_Mo_weirsOf 17 = some (.aload_n 0, 18, []) := (congrArg (fun t => fxl t 17) e_129).trans rfl
theorem f_Mo_weirsOf_18 : fx n_Mo_weirsOf 18 = some (.getfield 104, 21, [7, 3]) := (congrArg (fun t => fxl t 18) e_129).trans rfl
theorem f_Mo_weirsOf_21 : fx n_Mo_weirsOf 21 = some (.ishl, 22, []) := (congrArg (fun t => fxl t 21) e_129).trans rfl
theorem f_Mo_weirsOf_22 : fx n_Mo_weirsOf 22 = some (.if_icmp .ge 101, 25, [123]) := (congrArg (fun t => fxl t 22) e_129).trans rfl
theorem f_Mo_weirsOf_25 : fx n_Mo_weirsOf 25 = some (.iload_n 2, 26, []) := (congrArg (fun t => fxl t 25) e_129).trans rfl
theorem f_Mo_weirsOf_26 : fx n_Mo_weirsOf 26 = some (.iconst (-1), 27, []) := (congrArg (fun t => fxl t 26) e_129).trans rfl
theorem f_Mo_weirsOf_27 : fx n_Mo_weirsOf 27 = some (.if_icmp .eq 14, 30, [41]) := (congrArg (fun t => fxl t 27) e_129).trans rfl
theorem f_Mo_weirsOf_30 : fx n_Mo_weirsOf 30 = some (.iload_n 3, 31, []) := (congrArg (fun t => fxl t 30) e_129).trans rfl
theorem f_Mo_weirsOf_31 : fx n_Mo_weirsOf 31 = some (.invokestatic 208, 34, [87, 1]) := (congrArg (fun t => fxl t 31) e_129).trans rfl
theorem f_Mo_weirsOf_34 : fx n_Mo_weirsOf 34 = some (.iload_n 2, 35, []) := (congrArg (fun t => fxl t 34) e_129).trans rfl
theorem f_Mo_weirsOf_35 : fx n_Mo_weirsOf 35 = some (.invokestatic 208, 38, [87, 1]) := (congrArg (fun t => fxl t 35) e_129).trans rfl
theorem f_Mo_weirsOf_38 : fx n_Mo_weirsOf 38 = some (.if_icmp .ge 7, 41, [45]) := (congrArg (fun t => fxl t 38) e_129).trans rfl
theorem f_Mo_weirsOf_41 : fx n_Mo_weirsOf 41 = some (.iconst 1, 42, []) := (congrArg (fun t => fxl t 41) e_129).trans rfl
theorem f_Mo_weirsOf_42 : fx n_Mo_weirsOf 42 = some (.goto 4, 45, [46]) := (congrArg (fun t => fxl t 42) e_129).trans rfl
theorem f_Mo_weirsOf_45 : fx n_Mo_weirsOf 45 = some (.iconst 0, 46, []) := (congrArg (fun t => fxl t 45) e_129).trans rfl
theorem f_Mo_weirsOf_46 : fx n_Mo_weirsOf 46 = some (.istore 4, 48, []) := (congrArg (fun t => fxl t 46) e_129).trans rfl
theorem f_Mo_weirsOf_48 : fx n_Mo_weirsOf 48 = some (.iconst 0, 49, []) := (congrArg (fun t => fxl t 48) e_129).trans rfl
theorem f_Mo_weirsOf_49 : fx n_Mo_weirsOf 49 = some (.istore 5, 51, []) := (congrArg (fun t => fxl t 49) e_129).trans rfl
theorem f_Mo_weirsOf_51 : fx n_Mo_weirsOf 51 = some (.iload 5, 53, []) := (congrArg (fun t => fxl t 51) e_129).trans rfl
theorem f_Mo_weirsOf_53 : fx n_Mo_weirsOf 53 = some (.aload_n 0, 54, []) := (congrArg (fun t => fxl t 53) e_129).trans rfl
theorem f_Mo_weirsOf_54 : fx n_Mo_weirsOf 54 = some (.getfield 104, 57, [7, 3]) := (congrArg (fun t => fxl t 54) e_129).trans rfl
theorem f_Mo_weirsOf_57 : fx n_Mo_weirsOf 57 = some (.if_icmp .ge 41, 60, [98]) := (congrArg (fun t => fxl t 57) e_129).trans rfl
theorem f_Mo_weirsOf_60 : fx n_Mo_weirsOf 60 = some (.iload 4, 62, []) := (congrArg (fun t => fxl t 60) e_129).trans rfl
theorem f_Mo_weirsOf_62 : fx n_Mo_weirsOf 62 = some (.ifCond .eq 27, 65, [89]) := (congrArg (fun t => fxl t 62) e_129).trans rfl
theorem f_Mo_weirsOf_65 : fx n_Mo_weirsOf 65 = some (.iload_n 3, 66, []) := (congrArg (fun t => fxl t 65) e_129).trans rfl
theorem f_Mo_weirsOf_66 : fx n_Mo_weirsOf 66 = some (.iload 5, 68, []) := (congrArg (fun t => fxl t 66) e_129).trans rfl
theorem f_Mo_weirsOf_68 : fx n_Mo_weirsOf 68 = some (.ishr, 69, []) := (congrArg (fun t => fxl t 68) e_129).trans rfl
theorem f_Mo_weirsOf_69 : fx n_Mo_weirsOf 69 = some (.iconst 1, 70, []) := (congrArg (fun t => fxl t 69) e_129).trans rfl
theorem f_Mo_weirsOf_70 : fx n_Mo_weirsOf 70 = some (.iand, 71, []) := (congrArg (fun t => fxl t 70) e_129).trans rfl
theorem f_Mo_weirsOf_71 : fx n_Mo_weirsOf 71 = some (.ifCond .eq 14, 74, [85]) := (congrArg (fun t => fxl t 71) e_129).trans rfl
theorem f_Mo_weirsOf_74 : fx n_Mo_weirsOf 74 = some (.aload_n 0, 75, []) := (congrArg (fun t => fxl t 74) e_129).trans rfl
theorem f_Mo_weirsOf_75 : fx n_Mo_weirsOf 75 = some (.getfield 37, 78, [7, 16]) := (congrArg (fun t => fxl t 75) e_129).trans rfl
theorem f_Mo_weirsOf_78 : fx n_Mo_weirsOf 78 = some (.iload 5, 80, []) := (congrArg (fun t => fxl t 78) e_129).trans rfl
theorem f_Mo_weirsOf_80 : fx n_Mo_weirsOf 80 = some (.iaload, 81, []) := (congrArg (fun t => fxl t 80) e_129).trans rfl
theorem f_Mo_weirsOf_81 : fx n_Mo_weirsOf 81 = some (.iconst 3, 82, []) := (congrArg (fun t => fxl t 81) e_129).trans rfl
theorem f_Mo_weirsOf_82 : fx n_Mo_weirsOf 82 = some (.if_icmp .eq 7, 85, [89]) := (congrArg (fun t => fxl t 82) e_129).trans rfl
theorem f_Mo_weirsOf_85 : fx n_Mo_weirsOf 85 = some (.iconst 1, 86, []) := (congrArg (fun t => fxl t 85) e_129).trans rfl
theorem f_Mo_weirsOf_86 : fx n_Mo_weirsOf 86 = some (.goto 4, 89, [90]) := (congrArg (fun t => fxl t 86) e_129).trans rfl
theorem f_Mo_weirsOf_89 : fx n_Mo_weirsOf 89 = some (.iconst 0, 90, []) := (congrArg (fun t => fxl t 89) e_129).trans rfl
theorem f_Mo_weirsOf_90 : fx n_Mo_weirsOf 90 = some (.istore 4, 92, []) := (congrArg (fun t => fxl t 90) e_129).trans rfl
theorem f_Mo_weirsOf_92 : fx n_Mo_weirsOf 92 = some (.iinc 5 1, 95, []) := (congrArg (fun t => fxl t 92) e_129).trans rfl
theorem f_Mo_weirsOf_95 : fx n_Mo_weirsOf 95 = some (.goto (-44), 98, [51]) := (congrArg (fun t => fxl t 95) e_129).trans rfl
theorem f_Mo_weirsOf_98 : fx n_Mo_weirsOf 98 = some (.iload 4, 100, []) := (congrArg (fun t => fxl t 98) e_129).trans rfl
theorem f_Mo_weirsOf_100 : fx n_Mo_weirsOf 100 = some (.ifCond .eq 15, 103, [115]) := (congrArg (fun t => fxl t 100) e_129).trans rfl
theorem f_Mo_weirsOf_103 : fx n_Mo_weirsOf 103 = some (.aload_n 0, 104, []) := (congrArg (fun t => fxl t 103) e_129).trans rfl
theorem f_Mo_weirsOf_104 : fx n_Mo_weirsOf 104 = some (.iload_n 3, 105, []) := (congrArg (fun t => fxl t 104) e_129).trans rfl
theorem f_Mo_weirsOf_105 : fx n_Mo_weirsOf 105 = some (.invokevirtual 219, 108, [128, 1]) := (congrArg (fun t => fxl t 105) e_129).trans rfl
theorem f_Mo_weirsOf_108 : fx n_Mo_weirsOf 108 = some (.ifCond .eq 7, 111, [115]) := (congrArg (fun t => fxl t 108) e_129).trans rfl
theorem f_Mo_weirsOf_111 : fx n_Mo_weirsOf 111 = some (.iload_n 3, 112, []) := (congrArg (fun t => fxl t 111) e_129).trans rfl
theorem f_Mo_weirsOf_112 : fx n_Mo_weirsOf 112 = some (.goto 4, 115, [116]) := (congrArg (fun t => fxl t 112) e_129).trans rfl
theorem f_Mo_weirsOf_115 : fx n_Mo_weirsOf 115 = some (.iload_n 2, 116, []) := (congrArg (fun t => fxl t 115) e_129).trans rfl
theorem f_Mo_weirsOf_116 : fx n_Mo_weirsOf 116 = some (.istore_n 2, 117, []) := (congrArg (fun t => fxl t 116) e_129).trans rfl
theorem f_Mo_weirsOf_117 : fx n_Mo_weirsOf 117 = some (.iinc 3 1, 120, []) := (congrArg (fun t => fxl t 117) e_129).trans rfl
theorem f_Mo_weirsOf_120 : fx n_Mo_weirsOf 120 = some (.goto (-105), 123, [15]) := (congrArg (fun t => fxl t 120) e_129).trans rfl
theorem f_Mo_weirsOf_123 : fx n_Mo_weirsOf 123 = some (.aload_n 0, 124, []) := (congrArg (fun t => fxl t 123) e_129).trans rfl
theorem f_Mo_weirsOf_124 : fx n_Mo_weirsOf 124 = some (.getfield 37, 127, [7, 16]) := (congrArg (fun t => fxl t 124) e_129).trans rfl
theorem f_Mo_weirsOf_127 : fx n_Mo_weirsOf 127 = some (.aload_n 0, 128, []) := (congrArg (fun t => fxl t 127) e_129).trans rfl
theorem f_Mo_weirsOf_128 : fx n_Mo_weirsOf 128 = some (.getfield 13, 131, [7, 8]) := (congrArg (fun t => fxl t 128) e_129).trans rfl
theorem f_Mo_weirsOf_131 : fx n_Mo_weirsOf 131 = some (.invokestatic 133, 134, [86, 2]) := (congrArg (fun t => fxl t 131) e_129).trans rfl
theorem f_Mo_weirsOf_134 : fx n_Mo_weirsOf 134 = some (.iload_n 2, 135, []) := (congrArg (fun t => fxl t 134) e_129).trans rfl
theorem f_Mo_weirsOf_135 : fx n_Mo_weirsOf 135 = some (.iconst (-1), 136, []) := (congrArg (fun t => fxl t 135) e_129).trans rfl
theorem f_Mo_weirsOf_136 : fx n_Mo_weirsOf 136 = some (.if_icmp .eq 8, 139, [144]) := (congrArg (fun t => fxl t 136) e_129).trans rfl
theorem f_Mo_weirsOf_139 : fx n_Mo_weirsOf 139 = some (.iload_n 1, 140, []) := (congrArg (fun t => fxl t 139) e_129).trans rfl
theorem f_Mo_weirsOf_140 : fx n_Mo_weirsOf 140 = some (.iconst 1, 141, []) := (congrArg (fun t => fxl t 140) e_129).trans rfl
theorem f_Mo_weirsOf_141 : fx n_Mo_weirsOf 141 = some (.if_icmp .ne 7, 144, [148]) := (congrArg (fun t => fxl t 141) e_129).trans rfl
theorem f_Mo_weirsOf_144 : fx n_Mo_weirsOf 144 = some (.iload_n 2, 145, []) := (congrArg (fun t => fxl t 144) e_129).trans rfl
theorem f_Mo_weirsOf_145 : fx n_Mo_weirsOf 145 = some (.goto 7, 148, [152]) := (congrArg (fun t => fxl t 145) e_129).trans rfl
theorem f_Mo_weirsOf_148 : fx n_Mo_weirsOf 148 = some (.iload_n 2, 149, []) := (congrArg (fun t => fxl t 148) e_129).trans rfl
theorem f_Mo_weirsOf_149 : fx n_Mo_weirsOf 149 = some (.invokestatic 208, 152, [87, 1]) := (congrArg (fun t => fxl t 149) e_129).trans rfl
theorem f_Mo_weirsOf_152 : fx n_Mo_weirsOf 152 = some (.ireturn, 153, []) := (congrArg (fun t => fxl t 152) e_129).trans rfl
theorem f_Mo_weirs_0 : fx n_Mo_weirs 0 = some (.iload_n 1, 1, []) := (congrArg (fun t => fxl t 0) e_130).trans rfl
theorem f_Mo_weirs_1 : fx n_Mo_weirs 1 = some (.i2l, 2, []) := (congrArg (fun t => fxl t 1) e_130).trans rfl
theorem f_Mo_weirs_2 : fx n_Mo_weirs 2 = some (.lconst 0, 3, []) := (congrArg (fun t => fxl t 2) e_130).trans rfl
theorem f_Mo_weirs_3 : fx n_Mo_weirs 3 = some (.lconst 1, 4, []) := (congrArg (fun t => fxl t 3) e_130).trans rfl
theorem f_Mo_weirs_4 : fx n_Mo_weirs 4 = some (.invokestatic 73, 7, [85, 3]) := (congrArg (fun t => fxl t 4) e_130).trans rfl
theorem f_Mo_weirs_7 : fx n_Mo_weirs 7 = some (.ifCond .ne 6, 10, [13]) := (congrArg (fun t => fxl t 7) e_130).trans rfl
theorem f_Mo_weirs_10 : fx n_Mo_weirs 10 = some (.bipush (-102), 12, []) := (congrArg (fun t => fxl t 10) e_130).trans rfl
theorem f_Mo_weirs_12 : fx n_Mo_weirs 12 = some (.ireturn, 13, []) := (congrArg (fun t => fxl t 12) e_130).trans rfl
theorem f_Mo_weirs_13 : fx n_Mo_weirs 13 = some (.aload_n 0, 14, []) := (congrArg (fun t => fxl t 13) e_130).trans rfl
theorem f_Mo_weirs_14 : fx n_Mo_weirs 14 = some (.invokevirtual 169, 17, [96, 0]) := (congrArg (fun t => fxl t 14) e_130).trans rfl
theorem f_Mo_weirs_17 : fx n_Mo_weirs 17 = some (.ifCond .eq 8, 20, [25]) := (congrArg (fun t => fxl t 17) e_130).trans rfl
theorem f_Mo_weirs_20 : fx n_Mo_weirs 20 = some (.bipush (-103), 22, []) := (congrArg (fun t => fxl t 20) e_130).trans rfl
theorem f_Mo_weirs_22 : fx n_Mo_weirs 22 = some (.goto 8, 25, [30]) := (congrArg (fun t => fxl t 22) e_130).trans rfl
theorem f_Mo_weirs_25 : fx n_Mo_weirs 25 = some (.aload_n 0, 26, []) := (congrArg (fun t => fxl t 25) e_130).trans rfl
theorem f_Mo_weirs_26 : fx n_Mo_weirs 26 = some (.iload_n 1, 27, []) := (congrArg (fun t => fxl t 26) e_130).trans rfl
theorem f_Mo_weirs_27 : fx n_Mo_weirs 27 = some (.invokevirtual 222, 30, [129, 1]) := (congrArg (fun t => fxl t 27) e_130).trans rfl
theorem f_Mo_weirs_30 : fx n_Mo_weirs 30 = some (.ireturn, 31, []) := (congrArg (fun t => fxl t 30) e_130).trans rfl
theorem f_Mo_pour_0 : fx n_Mo_pour 0 = some (.iconst 0, 1, []) := (congrArg (fun t => fxl t 0) e_131).trans rfl
theorem f_Mo_pour_1 : fx n_Mo_pour 1 = some (.istore_n 3, 2, []) := (congrArg (fun t => fxl t 1) e_131).trans rfl
theorem f_Mo_pour_2 : fx n_Mo_pour 2 = some (.iload_n 3, 3, []) := (congrArg (fun t => fxl t 2) e_131).trans rfl
theorem f_Mo_pour_3 : fx n_Mo_pour 3 = some (.bipush 90, 5, []) := (congrArg (fun t => fxl t 3) e_131).trans rfl
theorem f_Mo_pour_5 : fx n_Mo_pour 5 = some (.if_icmp .ge 16, 8, [21]) := (congrArg (fun t => fxl t 5) e_131).trans rfl
theorem f_Mo_pour_8 : fx n_Mo_pour 8 = some (.aload_n 0, 9, []) := (congrArg (fun t => fxl t 8) e_131).trans rfl
theorem f_Mo_pour_9 : fx n_Mo_pour 9 = some (.getfield 43, 12, [7, 18]) := (congrArg (fun t => fxl t 9) e_131).trans rfl
theorem f_Mo_pour_12 : fx n_Mo_pour 12 = some (.iload_n 3, 13, []) := (congrArg (fun t => fxl t 12) e_131).trans rfl
theorem f_Mo_pour_13 : fx n_Mo_pour 13 = some (.iconst 0, 14, []) := (congrArg (fun t => fxl t 13) e_131).trans rfl
theorem f_Mo_pour_14 : fx n_Mo_pour 14 = some (.iastore, 15, []) := (congrArg (fun t => fxl t 14) e_131).trans rfl
theorem f_Mo_pour_15 : fx n_Mo_pour 15 = some (.iinc 3 1, 18, []) := (congrArg (fun t => fxl t 15) e_131).trans rfl
theorem f_Mo_pour_18 : fx n_Mo_pour 18 = some (.goto (-16), 21, [2]) := (congrArg (fun t => fxl t 18) e_131).trans rfl
theorem f_Mo_pour_21 : fx n_Mo_pour 21 = some (.iconst 0, 22, []) := (congrArg (fun t => fxl t 21) e_131).trans rfl
theorem f_Mo_pour_22 : fx n_Mo_pour 22 = some (.istore_n 3, 23, []) := (congrArg (fun t => fxl t 22) e_131).trans rfl
theorem f_Mo_pour_23 : fx n_Mo_pour 23 = some (.iload_n 3, 24, []) := (congrArg (fun t => fxl t 23) e_131).trans rfl
theorem f_Mo_pour_24 : fx n_Mo_pour 24 = some (.bipush 90, 26, []) := (congrArg (fun t => fxl t 24) e_131).trans rfl
theorem f_Mo_pour_26 : fx n_Mo_pour 26 = some (.if_icmp .ge 77, 29, [103]) := (congrArg (fun t => fxl t 26) e_131).trans rfl
theorem f_Mo_pour_29 : fx n_Mo_pour 29 = some (.aload_n 0, 30, []) := (congrArg (fun t => fxl t 29) e_131).trans rfl
theorem f_Mo_pour_30 : fx n_Mo_pour 30 = some (.getfield 13, 33, [7, 8]) := (congrArg (fun t => fxl t 30) e_131).trans rfl
theorem f_Mo_pour_33 : fx n_Mo_pour 33 = some (.iload_n 1, 34, []) := (congrArg (fun t => fxl t 33) e_131).trans rfl
theorem f_Mo_pour_34 : fx n_Mo_pour 34 = some (.iaload, 35, []) := (congrArg (fun t => fxl t 34) e_131).trans rfl
theorem f_Mo_pour_35 : fx n_Mo_pour 35 = some (.iload_n 3, 36, []) := (congrArg (fun t => fxl t 35) e_131).trans rfl
theorem f_Mo_pour_36 : fx n_Mo_pour 36 = some (.invokestatic 122, 39, [99, 2]) := (congrArg (fun t => fxl t 36) e_131).trans rfl
theorem f_Mo_pour_39 : fx n_Mo_pour 39 = some (.istore 4, 41, []) := (congrArg (fun t => fxl t 39) e_131).trans rfl
theorem f_Mo_pour_41 : fx n_Mo_pour 41 = some (.iconst 0, 42, []) := (congrArg (fun t => fxl t 41) e_131).trans rfl
theorem f_Mo_pour_42 : fx n_Mo_pour 42 = some (.istore 5, 44, []) := (congrArg (fun t => fxl t 42) e_131).trans rfl
theorem f_Mo_pour_44 : fx n_Mo_pour 44 = some (.iload 5, 46, []) := (congrArg (fun t => fxl t 44) e_131).trans rfl
theorem f_Mo_pour_46 : fx n_Mo_pour 46 = some (.iload 4, 48, []) := (congrArg (fun t => fxl t 46) e_131).trans rfl
theorem f_Mo_pour_48 : fx n_Mo_pour 48 = some (.iadd, 49, []) := (congrArg (fun t => fxl t 48) e_131).trans rfl
theorem f_Mo_pour_49 : fx n_Mo_pour 49 = some (.bipush 90, 51, []) := (congrArg (fun t => fxl t 49) e_131).trans rfl
theorem f_Mo_pour_51 : fx n_Mo_pour 51 = some (.if_icmp .ge 46, 54, [97]) := (congrArg (fun t => fxl t 51) e_131).trans rfl
theorem f_Mo_pour_54 : fx n_Mo_pour 54 = some (.aload_n 0, 55, []) := (congrArg (fun t => fxl t 54) e_131).trans rfl
theorem f_Mo_pour_55 : fx n_Mo_pour 55 = some (.getfield 43, 58, [7, 18]) := (congrArg (fun t => fxl t 55) e_131).trans rfl
theorem f_Mo_pour_58 : fx n_Mo_pour 58 = some (.iload 5, 60, []) := (congrArg (fun t => fxl t 58) e_131).trans rfl
theorem f_Mo_pour_60 : fx n_Mo_pour 60 = some (.iload 4, 62, []) := (congrArg (fun t => fxl t 60) e_131).trans rfl
theorem f_Mo_pour_62 : fx n_Mo_pour 62 = some (.iadd, 63, []) := (congrArg (fun t => fxl t 62) e_131).trans rfl
theorem f_Mo_pour_63 : fx n_Mo_pour 63 = some (.dup2, 64, []) := (congrArg (fun t => fxl t 63) e_131).trans rfl
theorem f_Mo_pour_64 : fx n_Mo_pour 64 = some (.iaload, 65, []) := (congrArg (fun t => fxl t 64) e_131).trans rfl
theorem f_Mo_pour_65 : fx n_Mo_pour 65 = some (.aload_n 0, 66, []) := (congrArg (fun t => fxl t 65) e_131).trans rfl
theorem f_Mo_pour_66 : fx n_Mo_pour 66 = some (.getfield 40, 69, [7, 17]) := (congrArg (fun t => fxl t 66) e_131).trans rfl
theorem f_Mo_pour_69 : fx n_Mo_pour 69 = some (.bipush 90, 71, []) := (congrArg (fun t => fxl t 69) e_131).trans rfl
theorem f_Mo_pour_71 : fx n_Mo_pour 71 = some (.iload_n 1, 72, []) := (congrArg (fun t => fxl t 71) e_131).trans rfl
theorem f_Mo_pour_72 : fx n_Mo_pour 72 = some (.imul, 73, []) := (congrArg (fun t => fxl t 72) e_131).trans rfl
theorem f_Mo_pour_73 : fx n_Mo_pour 73 = some (.iload_n 3, 74, []) := (congrArg (fun t => fxl t 73) e_131).trans rfl
theorem f_Mo_pour_74 : fx n_Mo_pour 74 = some (.iadd, 75, []) := (congrArg (fun t => fxl t 74) e_131).trans rfl
theorem f_Mo_pour_75 : fx n_Mo_pour 75 = some (.iaload, 76, []) := (congrArg (fun t => fxl t 75) e_131).trans rfl
theorem f_Mo_pour_76 : fx n_Mo_pour 76 = some (.aload_n 0, 77, []) := (congrArg (fun t => fxl t 76) e_131).trans rfl
theorem f_Mo_pour_77 : fx n_Mo_pour 77 = some (.getfield 40, 80, [7, 17]) := (congrArg (fun t => fxl t 77) e_131).trans rfl
theorem f_Mo_pour_80 : fx n_Mo_pour 80 = some (.bipush 90, 82, []) := (congrArg (fun t => fxl t 80) e_131).trans rfl
theorem f_Mo_pour_82 : fx n_Mo_pour 82 = some (.iload_n 2, 83, []) := (congrArg (fun t => fxl t 82) e_131).trans rfl
theorem f_Mo_pour_83 : fx n_Mo_pour 83 = some (.imul, 84, []) := (congrArg (fun t => fxl t 83) e_131).trans rfl
theorem f_Mo_pour_84 : fx n_Mo_pour 84 = some (.iload 5, 86, []) := (congrArg (fun t => fxl t 84) e_131).trans rfl
theorem f_Mo_pour_86 : fx n_Mo_pour 86 = some (.iadd, 87, []) := (congrArg (fun t => fxl t 86) e_131).trans rfl
theorem f_Mo_pour_87 : fx n_Mo_pour 87 = some (.iaload, 88, []) := (congrArg (fun t => fxl t 87) e_131).trans rfl
theorem f_Mo_pour_88 : fx n_Mo_pour 88 = some (.imul, 89, []) := (congrArg (fun t => fxl t 88) e_131).trans rfl
theorem f_Mo_pour_89 : fx n_Mo_pour 89 = some (.iadd, 90, []) := (congrArg (fun t => fxl t 89) e_131).trans rfl
theorem f_Mo_pour_90 : fx n_Mo_pour 90 = some (.iastore, 91, []) := (congrArg (fun t => fxl t 90) e_131).trans rfl
theorem f_Mo_pour_91 : fx n_Mo_pour 91 = some (.iinc 5 1, 94, []) := (congrArg (fun t => fxl t 91) e_131).trans rfl
theorem f_Mo_pour_94 : fx n_Mo_pour 94 = some (.goto (-50), 97, [44]) := (congrArg (fun t => fxl t 94) e_131).trans rfl
theorem f_Mo_pour_97 : fx n_Mo_pour 97 = some (.iinc 3 1, 100, []) := (congrArg (fun t => fxl t 97) e_131).trans rfl
theorem f_Mo_pour_100 : fx n_Mo_pour 100 = some (.goto (-77), 103, [23]) := (congrArg (fun t => fxl t 100) e_131).trans rfl
theorem f_Mo_pour_103 : fx n_Mo_pour 103 = some (.iconst 0, 104, []) := (congrArg (fun t => fxl t 103) e_131).trans rfl
theorem f_Mo_pour_104 : fx n_Mo_pour 104 = some (.istore_n 3, 105, []) := (congrArg (fun t => fxl t 104) e_131).trans rfl
theorem f_Mo_pour_105 : fx n_Mo_pour 105 = some (.iload_n 3, 106, []) := (congrArg (fun t => fxl t 105) e_131).trans rfl
theorem f_Mo_pour_106 : fx n_Mo_pour 106 = some (.bipush 90, 108, []) := (congrArg (fun t => fxl t 106) e_131).trans rfl
theorem f_Mo_pour_108 : fx n_Mo_pour 108 = some (.if_icmp .ge 26, 111, [134]) := (congrArg (fun t => fxl t 108) e_131).trans rfl
theorem f_Mo_pour_111 : fx n_Mo_pour 111 = some (.aload_n 0, 112, []) := (congrArg (fun t => fxl t 111) e_131).trans rfl
theorem f_Mo_pour_112 : fx n_Mo_pour 112 = some (.getfield 40, 115, [7, 17]) := (congrArg (fun t => fxl t 112) e_131).trans rfl
theorem f_Mo_pour_115 : fx n_Mo_pour 115 = some (.bipush 90, 117, []) := (congrArg (fun t => fxl t 115) e_131).trans rfl
theorem f_Mo_pour_117 : fx n_Mo_pour 117 = some (.iload_n 2, 118, []) := (congrArg (fun t => fxl t 117) e_131).trans rfl
theorem f_Mo_pour_118 : fx n_Mo_pour 118 = some (.imul, 119, []) := (congrArg (fun t => fxl t 118) e_131).trans rfl
theorem f_Mo_pour_119 : fx n_Mo_pour 119 = some (.iload_n 3, 120, []) := (congrArg (fun t => fxl t 119) e_131).trans rfl
theorem f_Mo_pour_120 : fx n_Mo_pour 120 = some (.iadd, 121, []) := (congrArg (fun t => fxl t 120) e_131).trans rfl
theorem f_Mo_pour_121 : fx n_Mo_pour 121 = some (.aload_n 0, 122, []) := (congrArg (fun t => fxl t 121) e_131).trans rfl
theorem f_Mo_pour_122 : fx n_Mo_pour 122 = some (.getfield 43, 125, [7, 18]) := (congrArg (fun t => fxl t 122) e_131).trans rfl
theorem f_Mo_pour_125 : fx n_Mo_pour 125 = some (.iload_n 3, 126, []) := (congrArg (fun t => fxl t 125) e_131).trans rfl
theorem f_Mo_pour_126 : fx n_Mo_pour 126 = some (.iaload, 127, []) := (congrArg (fun t => fxl t 126) e_131).trans rfl
theorem f_Mo_pour_127 : fx n_Mo_pour 127 = some (.iastore, 128, []) := (congrArg (fun t => fxl t 127) e_131).trans rfl
theorem f_Mo_pour_128 : fx n_Mo_pour 128 = some (.iinc 3 1, 131, []) := (congrArg (fun t => fxl t 128) e_131).trans rfl
theorem f_Mo_pour_131 : fx n_Mo_pour 131 = some (.goto (-26), 134, [105]) := (congrArg (fun t => fxl t 131) e_131).trans rfl
theorem f_Mo_pour_134 : fx n_Mo_pour 134 = some (.return_, 135, []) := (congrArg (fun t => fxl t 134) e_131).trans rfl
theorem f_Mo_layWays_0 : fx n_Mo_layWays 0 = some (.iconst 0, 1, []) := (congrArg (fun t => fxl t 0) e_132).trans rfl
theorem f_Mo_layWays_1 : fx n_Mo_layWays 1 = some (.istore_n 1, 2, []) := (congrArg (fun t => fxl t 1) e_132).trans rfl
theorem f_Mo_layWays_2 : fx n_Mo_layWays 2 = some (.iload_n 1, 3, []) := (congrArg (fun t => fxl t 2) e_132).trans rfl
theorem f_Mo_layWays_3 : fx n_Mo_layWays 3 = some (.aload_n 0, 4, []) := (congrArg (fun t => fxl t 3) e_132).trans rfl
theorem f_Mo_layWays_4 : fx n_Mo_layWays 4 = some (.getfield 104, 7, [7, 3]) := (congrArg (fun t => fxl t 4) e_132).trans rfl
theorem f_Mo_layWays_7 : fx n_Mo_layWays 7 = some (.if_icmp .ge 72, 10, [79]) := (congrArg (fun t => fxl t 7) e_132).trans rfl
theorem f_Mo_layWays_10 : fx n_Mo_layWays 10 = some (.iconst 0, 11, []) := (congrArg (fun t => fxl t 10) e_132).trans rfl
theorem f_Mo_layWays_11 : fx n_Mo_layWays 11 = some (.istore_n 2, 12, []) := (congrArg (fun t => fxl t 11) e_132).trans rfl
theorem f_Mo_layWays_12 : fx n_Mo_layWays 12 = some (.iload_n 2, 13, []) := (congrArg (fun t => fxl t 12) e_132).trans rfl
theorem f_Mo_layWays_13 : fx n_Mo_layWays 13 = some (.bipush 90, 15, []) := (congrArg (fun t => fxl t 13) e_132).trans rfl
theorem f_Mo_layWays_15 : fx n_Mo_layWays 15 = some (.if_icmp .ge 58, 18, [73]) := (congrArg (fun t => fxl t 15) e_132).trans rfl
theorem f_Mo_layWays_18 : fx n_Mo_layWays 18 = some (.iload_n 2, 19, []) := (congrArg (fun t => fxl t 18) e_132).trans rfl
theorem f_Mo_layWays_19 : fx n_Mo_layWays 19 = some (.aload_n 0, 20, []) := (congrArg (fun t => fxl t 19) e_132).trans rfl
theorem f_Mo_layWays_20 : fx n_Mo_layWays 20 = some (.getfield 16, 23, [7, 9]) := (congrArg (fun t => fxl t 20) e_132).trans rfl
theorem f_Mo_layWays_23 : fx n_Mo_layWays 23 = some (.iload_n 1, 24, []) := (congrArg (fun t => fxl t 23) e_132).trans rfl
theorem f_Mo_layWays_24 : fx n_Mo_layWays 24 = some (.iaload, 25, []) := (congrArg (fun t => fxl t 24) e_132).trans rfl
theorem f_Mo_layWays_25 : fx n_Mo_layWays 25 = some (.isub, 26, []) := (congrArg (fun t => fxl t 25) e_132).trans rfl
theorem f_Mo_layWays_26 : fx n_Mo_layWays 26 = some (.istore_n 3, 27, []) := (congrArg (fun t => fxl t 26) e_132).trans rfl
theorem f_Mo_layWays_27 : fx n_Mo_layWays 27 = some (.aload_n 0, 28, []) := (congrArg (fun t => fxl t 27) e_132).trans rfl
theorem f_Mo_layWays_28 : fx n_Mo_layWays 28 = some (.getfield 40, 31, [7, 17]) := (congrArg (fun t => fxl t 28) e_132).trans rfl
theorem f_Mo_layWays_31 : fx n_Mo_layWays 31 = some (.bipush 90, 33, []) := (congrArg (fun t => fxl t 31) e_132).trans rfl
theorem f_Mo_layWays_33 : fx n_Mo_layWays 33 = some (.iload_n 1, 34, []) := (congrArg (fun t => fxl t 33) e_132).trans rfl
theorem f_Mo_layWays_34 : fx n_Mo_layWays 34 = some (.imul, 35, []) := (congrArg (fun t => fxl t 34) e_132).trans rfl
theorem f_Mo_layWays_35 : fx n_Mo_layWays 35 = some (.iload_n 2, 36, []) := (congrArg (fun t => fxl t 35) e_132).trans rfl
theorem f_Mo_layWays_36 : fx n_Mo_layWays 36 = some (.iadd, 37, []) := (congrArg (fun t => fxl t 36) e_132).trans rfl
theorem f_Mo_layWays_37 : fx n_Mo_layWays 37 = some (.iload_n 3, 38, []) := (congrArg (fun t => fxl t 37) e_132).trans rfl
theorem f_Mo_layWays_38 : fx n_Mo_layWays 38 = some (.ifCond .eq 23, 41, [61]) := (congrArg (fun t => fxl t 38) e_132).trans rfl
theorem f_Mo_layWays_41 : fx n_Mo_layWays 41 = some (.aload_n 0, 42, []) := (congrArg (fun t => fxl t 41) e_132).trans rfl
theorem f_Mo_layWays_42 : fx n_Mo_layWays 42 = some (.iload_n 1, 43, []) := (congrArg (fun t => fxl t 42) e_132).trans rfl
theorem f_Mo_layWays_43 : fx n_Mo_layWays 43 = some (.invokevirtual 155, 46, [109, 1]) := (congrArg (fun t => fxl t 43) e_132).trans rfl
theorem f_Mo_layWays_46 : fx n_Mo_layWays 46 = some (.ifCond .eq 19, 49, [65]) := (congrArg (fun t => fxl t 46) e_132).trans rfl
theorem f_Mo_layWays_49 : fx n_Mo_layWays 49 = some (.iload_n 3, 50, []) := (congrArg (fun t => fxl t 49) e_132).trans rfl
theorem f_Mo_layWays_50 : fx n_Mo_layWays 50 = some (.i2l, 51, []) := (congrArg (fun t => fxl t 50) e_132).trans rfl
theorem f_Mo_layWays_51 : fx n_Mo_layWays 51 = some (.lconst 0, 52, []) := (congrArg (fun t => fxl t 51) e_132).trans rfl
theorem f_Mo_layWays_52 : fx n_Mo_layWays 52 = some (.ldc2_w 225, 55, []) := (congrArg (fun t => fxl t 52) e_132).trans rfl
theorem f_Mo_layWays_55 : fx n_Mo_layWays 55 = some (.invokestatic 73, 58, [85, 3]) := (congrArg (fun t => fxl t 55) e_132).trans rfl
theorem f_Mo_layWays_58 : fx n_Mo_layWays 58 = some (.ifCond .eq 7, 61, [65]) := (congrArg (fun t => fxl t 58) e_132).trans rfl
theorem f_Mo_layWays_61 : fx n_Mo_layWays 61 = some (.iconst 1, 62, []) := (congrArg (fun t => fxl t 61) e_132).trans rfl
theorem f_Mo_layWays_62 : fx n_Mo_layWays 62 = some (.goto 4, 65, [66]) := (congrArg (fun t => fxl t 62) e_132).trans rfl
theorem f_Mo_layWays_65 : fx n_Mo_layWays 65 = some (.iconst 0, 66, []) := (congrArg (fun t => fxl t 65) e_132).trans rfl
theorem f_Mo_layWays_66 : fx n_Mo_layWays 66 = some (.iastore, 67, []) := (congrArg (fun t => fxl t 66) e_132).trans rfl
theorem f_Mo_layWays_67 : fx n_Mo_layWays 67 = some (.iinc 2 1, 70, []) := (congrArg (fun t => fxl t 67) e_132).trans rfl
theorem f_Mo_layWays_70 : fx n_Mo_layWays 70 = some (.goto (-58), 73, [12]) := (congrArg (fun t => fxl t 70) e_132).trans rfl
theorem f_Mo_layWays_73 : fx n_Mo_layWays 73 = some (.iinc 1 1, 76, []) := (congrArg (fun t => fxl t 73) e_132).trans rfl
theorem f_Mo_layWays_76 : fx n_Mo_layWays 76 = some (.goto (-74), 79, [2]) := (congrArg (fun t => fxl t 76) e_132).trans rfl
theorem f_Mo_layWays_79 : fx n_Mo_layWays 79 = some (.aload_n 0, 80, []) := (congrArg (fun t => fxl t 79) e_132).trans rfl
theorem f_Mo_layWays_80 : fx n_Mo_layWays 80 = some (.getfield 104, 83, [7, 3]) := (congrArg (fun t => fxl t 80) e_132).trans rfl
theorem f_Mo_layWays_83 : fx n_Mo_layWays 83 = some (.iconst 1, 84, []) := (congrArg (fun t => fxl t 83) e_132).trans rfl
theorem f_Mo_layWays_84 : fx n_Mo_layWays 84 = some (.isub, 85, []) := (congrArg (fun t => fxl t 84) e_132).trans rfl
theorem f_Mo_layWays_85 : fx n_Mo_layWays 85 = some (.istore_n 1, 86, []) := (congrArg (fun t => fxl t 85) e_132).trans rfl
theorem f_Mo_layWays_86 : fx n_Mo_layWays 86 = some (.iload_n 1, 87, []) := (congrArg (fun t => fxl t 86) e_132).trans rfl
theorem f_Mo_layWays_87 : fx n_Mo_layWays 87 = some (.ifCond .le 30, 90, [117]) := (congrArg (fun t => fxl t 87) e_132).trans rfl
theorem f_Mo_layWays_90 : fx n_Mo_layWays 90 = some (.aload_n 0, 91, []) := (congrArg (fun t => fxl t 90) e_132).trans rfl
theorem f_Mo_layWays_91 : fx n_Mo_layWays 91 = some (.getfield 22, 94, [7, 11]) := (congrArg (fun t => fxl t 91) e_132).trans rfl
theorem f_Mo_layWays_94 : fx n_Mo_layWays 94 = some (.iload_n 1, 95, []) := (congrArg (fun t => fxl t 94) e_132).trans rfl
theorem f_Mo_layWays_95 : fx n_Mo_layWays 95 = some (.iaload, 96, []) := (congrArg (fun t => fxl t 95) e_132).trans rfl
theorem f_Mo_layWays_96 : fx n_Mo_layWays 96 = some (.iconst (-1), 97, []) := (congrArg (fun t => fxl t 96) e_132).trans rfl
theorem f_Mo_layWays_97 : fx n_Mo_layWays 97 = some (.if_icmp .eq 14, 100, [111]) := (congrArg (fun t => fxl t 97) e_132).trans rfl
theorem f_Mo_layWays_100 : fx n_Mo_layWays 100 = some (.aload_n 0, 101, []) := (congrArg (fun t => fxl t 100) e_132).trans rfl
theorem f_Mo_layWays_101 : fx n_Mo_layWays 101 = some (.iload_n 1, 102, []) := (congrArg (fun t => fxl t 101) e_132).trans rfl
theorem f_Mo_layWays_102 : fx n_Mo_layWays 102 = some (.aload_n 0, 103, []) := (congrArg (fun t => fxl t 102) e_132).trans rfl
theorem f_Mo_layWays_103 : fx n_Mo_layWays 103 = some (.getfield 22, 106, [7, 11]) := (congrArg (fun t => fxl t 103) e_132).trans rfl
theorem f_Mo_layWays_106 : fx n_Mo_layWays 106 = some (.iload_n 1, 107, []) := (congrArg (fun t => fxl t 106) e_132).trans rfl
theorem f_Mo_layWays_107 : fx n_Mo_layWays 107 = some (.iaload, 108, []) := (congrArg (fun t => fxl t 107) e_132).trans rfl
theorem f_Mo_layWays_108 : fx n_Mo_layWays 108 = some (.invokevirtual 227, 111, [131, 2]) := (congrArg (fun t => fxl t 108) e_132).trans rfl
theorem f_Mo_layWays_111 : fx n_Mo_layWays 111 = some (.iinc 1 (-1), 114, []) := (congrArg (fun t => fxl t 111) e_132).trans rfl
theorem f_Mo_layWays_114 : fx n_Mo_layWays 114 = some (.goto (-28), 117, [86]) := (congrArg (fun t => fxl t 114) e_132).trans rfl
theorem f_Mo_layWays_117 : fx n_Mo_layWays 117 = some (.return_, 118, []) := (congrArg (fun t => fxl t 117) e_132).trans rfl
theorem f_Mo_oddsOf_0 : fx n_Mo_oddsOf 0 = some (.aload_n 0, 1, []) := (congrArg (fun t => fxl t 0) e_133).trans rfl
theorem f_Mo_oddsOf_1 : fx n_Mo_oddsOf 1 = some (.invokevirtual 231, 4, [132, 0]) := (congrArg (fun t => fxl t 1) e_133).trans rfl
theorem f_Mo_oddsOf_4 : fx n_Mo_oddsOf 4 = some (.iconst 0, 5, []) := (congrArg (fun t => fxl t 4) e_133).trans rfl
theorem f_Mo_oddsOf_5 : fx n_Mo_oddsOf 5 = some (.istore_n 3, 6, []) := (congrArg (fun t => fxl t 5) e_133).trans rfl
theorem f_Mo_oddsOf_6 : fx n_Mo_oddsOf 6 = some (.iconst 0, 7, []) := (congrArg (fun t => fxl t 6) e_133).trans rfl
theorem f_Mo_oddsOf_7 : fx n_Mo_oddsOf 7 = some (.istore 4, 9, []) := (congrArg (fun t => fxl t 7) e_133).trans rfl
theorem f_Mo_oddsOf_9 : fx n_Mo_oddsOf 9 = some (.iconst 0, 10, []) := (congrArg (fun t => fxl t 9) e_133).trans rfl
theorem f_Mo_oddsOf_10 : fx n_Mo_oddsOf 10 = some (.istore 5, 12, []) := (congrArg (fun t => fxl t 10) e_133).trans rfl
theorem f_Mo_oddsOf_12 : fx n_Mo_oddsOf 12 = some (.iload 5, 14, []) := (congrArg (fun t => fxl t 12) e_133).trans rfl
theorem f_Mo_oddsOf_14 : fx n_Mo_oddsOf 14 = some (.bipush 90, 16, []) := (congrArg (fun t => fxl t 14) e_133).trans rfl
theorem f_Mo_oddsOf_16 : fx n_Mo_oddsOf 16 = some (.if_icmp .ge 65, 19, [81]) := (congrArg (fun t => fxl t 16) e_133).trans rfl
theorem f_Mo_oddsOf_19 : fx n_Mo_oddsOf 19 = some (.iload_n 3, 20, []) := (congrArg (fun t => fxl t 19) e_133).trans rfl
theorem f_Mo_oddsOf_20 : fx n_Mo_oddsOf 20 = some (.aload_n 0, 21, []) := (congrArg (fun t => fxl t 20) e_133).trans rfl
theorem f_Mo_oddsOf_21 : fx n_Mo_oddsOf 21 = some (.getfield 13, 24, [7, 8]) := (congrArg (fun t => fxl t 21) e_133).trans rfl
theorem f_Mo_oddsOf_24 : fx n_Mo_oddsOf 24 = some (.iload_n 1, 25, []) := (congrArg (fun t => fxl t 24) e_133).trans rfl
theorem f_Mo_oddsOf_25 : fx n_Mo_oddsOf 25 = some (.iaload, 26, []) := (congrArg (fun t => fxl t 25) e_133).trans rfl
theorem f_Mo_oddsOf_26 : fx n_Mo_oddsOf 26 = some (.iload 5, 28, []) := (congrArg (fun t => fxl t 26) e_133).trans rfl
theorem f_Mo_oddsOf_28 : fx n_Mo_oddsOf 28 = some (.aload_n 0, 29, []) := (congrArg (fun t => fxl t 28) e_133).trans rfl
theorem f_Mo_oddsOf_29 : fx n_Mo_oddsOf 29 = some (.getfield 19, 32, [7, 10]) := (congrArg (fun t => fxl t 29) e_133).trans rfl
theorem f_Mo_oddsOf_32 : fx n_Mo_oddsOf 32 = some (.iload_n 1, 33, []) := (congrArg (fun t => fxl t 32) e_133).trans rfl
theorem f_Mo_oddsOf_33 : fx n_Mo_oddsOf 33 = some (.iaload, 34, []) := (congrArg (fun t => fxl t 33) e_133).trans rfl
theorem f_Mo_oddsOf_34 : fx n_Mo_oddsOf 34 = some (.invokestatic 129, 37, [101, 3]) := (congrArg (fun t => fxl t 34) e_133).trans rfl
theorem f_Mo_oddsOf_37 : fx n_Mo_oddsOf 37 = some (.ifCond .eq 18, 40, [55]) := (congrArg (fun t => fxl t 37) e_133).trans rfl
theorem f_Mo_oddsOf_40 : fx n_Mo_oddsOf 40 = some (.aload_n 0, 41, []) := (congrArg (fun t => fxl t 40) e_133).trans rfl
theorem f_Mo_oddsOf_41 : fx n_Mo_oddsOf 41 = some (.getfield 40, 44, [7, 17]) := (congrArg (fun t => fxl t 41) e_133).trans rfl
theorem f_Mo_oddsOf_44 : fx n_Mo_oddsOf 44 = some (.bipush 90, 46, []) := (congrArg (fun t => fxl t 44) e_133).trans rfl
theorem f_Mo_oddsOf_46 : fx n_Mo_oddsOf 46 = some (.iload_n 1, 47, []) := (congrArg (fun t => fxl t 46) e_133).trans rfl
theorem f_Mo_oddsOf_47 : fx n_Mo_oddsOf 47 = some (.imul, 48, []) := (congrArg (fun t => fxl t 47) e_133).trans rfl
theorem f_Mo_oddsOf_48 : fx n_Mo_oddsOf 48 = some (.iload 5, 50, []) := (congrArg (fun t => fxl t 48) e_133).trans rfl
theorem f_Mo_oddsOf_50 : fx n_Mo_oddsOf 50 = some (.iadd, 51, []) := (congrArg (fun t => fxl t 50) e_133).trans rfl
theorem f_Mo_oddsOf_51 : fx n_Mo_oddsOf 51 = some (.iaload, 52, []) := (congrArg (fun t => fxl t 51) e_133).trans rfl
theorem f_Mo_oddsOf_52 : fx n_Mo_oddsOf 52 = some (.goto 4, 55, [56]) := (congrArg (fun t => fxl t 52) e_133).trans rfl
theorem f_Mo_oddsOf_55 : fx n_Mo_oddsOf 55 = some (.iconst 0, 56, []) := (congrArg (fun t => fxl t 55) e_133).trans rfl
theorem f_Mo_oddsOf_56 : fx n_Mo_oddsOf 56 = some (.iadd, 57, []) := (congrArg (fun t => fxl t 56) e_133).trans rfl
theorem f_Mo_oddsOf_57 : fx n_Mo_oddsOf 57 = some (.istore_n 3, 58, []) := (congrArg (fun t => fxl t 57) e_133).trans rfl
theorem f_Mo_oddsOf_58 : fx n_Mo_oddsOf 58 = some (.iload 4, 60, []) := (congrArg (fun t => fxl t 58) e_133).trans rfl
theorem f_Mo_oddsOf_60 : fx n_Mo_oddsOf 60 = some (.aload_n 0, 61, []) := (congrArg (fun t => fxl t 60) e_133).trans rfl
theorem f_Mo_oddsOf_61 : fx n_Mo_oddsOf 61 = some (.getfield 40, 64, [7, 17]) := (congrArg (fun t => fxl t 61) e_133).trans rfl
theorem f_Mo_oddsOf_64 : fx n_Mo_oddsOf 64 = some (.bipush 90, 66, []) := (congrArg (fun t => fxl t 64) e_133).trans rfl
theorem f_Mo_oddsOf_66 : fx n_Mo_oddsOf 66 = some (.iload_n 1, 67, []) := (congrArg (fun t => fxl t 66) e_133).trans rfl
theorem f_Mo_oddsOf_67 : fx n_Mo_oddsOf 67 = some (.imul, 68, []) := (congrArg (fun t => fxl t 67) e_133).trans rfl
theorem f_Mo_oddsOf_68 : fx n_Mo_oddsOf 68 = some (.iload 5, 70, []) := (congrArg (fun t => fxl t 68) e_133).trans rfl
theorem f_Mo_oddsOf_70 : fx n_Mo_oddsOf 70 = some (.iadd, 71, []) := (congrArg (fun t => fxl t 70) e_133).trans rfl
theorem f_Mo_oddsOf_71 : fx n_Mo_oddsOf 71 = some (.iaload, 72, []) := (congrArg (fun t => fxl t 71) e_133).trans rfl
theorem f_Mo_oddsOf_72 : fx n_Mo_oddsOf 72 = some (.iadd, 73, []) := (congrArg (fun t => fxl t 72) e_133).trans rfl
theorem f_Mo_oddsOf_73 : fx n_Mo_oddsOf 73 = some (.istore 4, 75, []) := (congrArg (fun t => fxl t 73) e_133).trans rfl
theorem f_Mo_oddsOf_75 : fx n_Mo_oddsOf 75 = some (.iinc 5 1, 78, []) := (congrArg (fun t => fxl t 75) e_133).trans rfl
theorem f_Mo_oddsOf_78 : fx n_Mo_oddsOf 78 = some (.goto (-66), 81, [12]) := (congrArg (fun t => fxl t 78) e_133).trans rfl
theorem f_Mo_oddsOf_81 : fx n_Mo_oddsOf 81 = some (.iload 4, 83, []) := (congrArg (fun t => fxl t 81) e_133).trans rfl
theorem f_Mo_oddsOf_83 : fx n_Mo_oddsOf 83 = some (.istore 5, 85, []) := (congrArg (fun t => fxl t 83) e_133).trans rfl
theorem f_Mo_oddsOf_85 : fx n_Mo_oddsOf 85 = some (.iload_n 3, 86, []) := (congrArg (fun t => fxl t 85) e_133).trans rfl
theorem f_Mo_oddsOf_86 : fx n_Mo_oddsOf 86 = some (.istore 6, 88, []) := (congrArg (fun t => fxl t 86) e_133).trans rfl
theorem f_Mo_oddsOf_88 : fx n_Mo_oddsOf 88 = some (.iload 6, 90, []) := (congrArg (fun t => fxl t 88) e_133).trans rfl
theorem f_Mo_oddsOf_90 : fx n_Mo_oddsOf 90 = some (.ifCond .le 21, 93, [111]) := (congrArg (fun t => fxl t 90) e_133).trans rfl
theorem f_Mo_oddsOf_93 : fx n_Mo_oddsOf 93 = some (.iload 5, 95, []) := (congrArg (fun t => fxl t 93) e_133).trans rfl
theorem f_Mo_oddsOf_95 : fx n_Mo_oddsOf 95 = some (.iload 6, 97, []) := (congrArg (fun t => fxl t 95) e_133).trans rfl
theorem f_Mo_oddsOf_97 : fx n_Mo_oddsOf 97 = some (.irem, 98, []) := (congrArg (fun t => fxl t 97) e_133).trans rfl
theorem f_Mo_oddsOf_98 : fx n_Mo_oddsOf 98 = some (.istore 7, 100, []) := (congrArg (fun t => fxl t 98) e_133).trans rfl
theorem f_Mo_oddsOf_100 : fx n_Mo_oddsOf 100 = some (.iload 6, 102, []) := (congrArg (fun t => fxl t 100) e_133).trans rfl
theorem f_Mo_oddsOf_102 : fx n_Mo_oddsOf 102 = some (.istore 5, 104, []) := (congrArg (fun t => fxl t 102) e_133).trans rfl
theorem f_Mo_oddsOf_104 : fx n_Mo_oddsOf 104 = some (.iload 7, 106, []) := (congrArg (fun t => fxl t 104) e_133).trans rfl
theorem f_Mo_oddsOf_106 : fx n_Mo_oddsOf 106 = some (.istore 6, 108, []) := (congrArg (fun t => fxl t 106) e_133).trans rfl
theorem f_Mo_oddsOf_108 : fx n_Mo_oddsOf 108 = some (.goto (-20), 111, [88]) := (congrArg (fun t => fxl t 108) e_133).trans rfl
theorem f_Mo_oddsOf_111 : fx n_Mo_oddsOf 111 = some (.iload_n 2, 112, []) := (congrArg (fun t => fxl t 111) e_133).trans rfl
theorem f_Mo_oddsOf_112 : fx n_Mo_oddsOf 112 = some (.ifCond .ne 10, 115, [122]) := (congrArg (fun t => fxl t 112) e_133).trans rfl
theorem f_Mo_oddsOf_115 : fx n_Mo_oddsOf 115 = some (.iload_n 3, 116, []) := (congrArg (fun t => fxl t 115) e_133).trans rfl
theorem f_Mo_oddsOf_116 : fx n_Mo_oddsOf 116 = some (.iload 5, 118, []) := (congrArg (fun t => fxl t 116) e_133).trans rfl
theorem f_Mo_oddsOf_118 : fx n_Mo_oddsOf 118 = some (.idiv, 119, []) := (congrArg (fun t => fxl t 118) e_133).trans rfl
theorem f_Mo_oddsOf_119 : fx n_Mo_oddsOf 119 = some (.goto 8, 122, [127]) := (congrArg (fun t => fxl t 119) e_133).trans rfl
theorem f_Mo_oddsOf_122 : fx n_Mo_oddsOf 122 = some (.iload 4, 124, []) := (congrArg (fun t => fxl t 122) e_133).trans rfl
theorem f_Mo_oddsOf_124 : fx n_Mo_oddsOf 124 = some (.iload 5, 126, []) := (congrArg (fun t => fxl t 124) e_133).trans rfl
theorem f_Mo_oddsOf_126 : fx n_Mo_oddsOf 126 = some (.idiv, 127, []) := (congrArg (fun t => fxl t 126) e_133).trans rfl
theorem f_Mo_oddsOf_127 : fx n_Mo_oddsOf 127 = some (.ireturn, 128, []) := (congrArg (fun t => fxl t 127) e_133).trans rfl
theorem f_Mo_odds_0 : fx n_Mo_odds 0 = some (.aload_n 0, 1, []) := (congrArg (fun t => fxl t 0) e_134).trans rfl
theorem f_Mo_odds_1 : fx n_Mo_odds 1 = some (.iload_n 1, 2, []) := (congrArg (fun t => fxl t 1) e_134).trans rfl
theorem f_Mo_odds_2 : fx n_Mo_odds 2 = some (.invokevirtual 158, 5, [97, 1]) := (congrArg (fun t => fxl t 2) e_134).trans rfl
theorem f_Mo_odds_5 : fx n_Mo_odds 5 = some (.ifCond .ne 6, 8, [11]) := (congrArg (fun t => fxl t 5) e_134).trans rfl
theorem f_Mo_odds_8 : fx n_Mo_odds 8 = some (.bipush (-101), 10, []) := (congrArg (fun t => fxl t 8) e_134).trans rfl
theorem f_Mo_odds_10 : fx n_Mo_odds 10 = some (.ireturn, 11, []) := (congrArg (fun t => fxl t 10) e_134).trans rfl
theorem f_Mo_odds_11 : fx n_Mo_odds 11 = some (.iload_n 2, 12, []) := (congrArg (fun t => fxl t 11) e_134).trans rfl
theorem f_Mo_odds_12 : fx n_Mo_odds 12 = some (.i2l, 13, []) := (congrArg (fun t => fxl t 12) e_134).trans rfl
theorem f_Mo_odds_13 : fx n_Mo_odds 13 = some (.lconst 0, 14, []) := (congrArg (fun t => fxl t 13) e_134).trans rfl
theorem f_Mo_odds_14 : fx n_Mo_odds 14 = some (.lconst 1, 15, []) := (congrArg (fun t => fxl t 14) e_134).trans rfl
theorem f_Mo_odds_15 : fx n_Mo_odds 15 = some (.invokestatic 73, 18, [85, 3]) := (congrArg (fun t => fxl t 15) e_134).trans rfl
theorem f_Mo_odds_18 : fx n_Mo_odds 18 = some (.ifCond .eq 12, 21, [30]) := (congrArg (fun t => fxl t 18) e_134).trans rfl
theorem f_Mo_odds_21 : fx n_Mo_odds 21 = some (.aload_n 0, 22, []) := (congrArg (fun t => fxl t 21) e_134).trans rfl
theorem f_Mo_odds_22 : fx n_Mo_odds 22 = some (.iload_n 1, 23, []) := (congrArg (fun t => fxl t 22) e_134).trans rfl
theorem f_Mo_odds_23 : fx n_Mo_odds 23 = some (.iload_n 2, 24, []) := (congrArg (fun t => fxl t 23) e_134).trans rfl
theorem f_Mo_odds_24 : fx n_Mo_odds 24 = some (.invokevirtual 234, 27, [133, 2]) := (congrArg (fun t => fxl t 24) e_134).trans rfl
theorem f_Mo_odds_27 : fx n_Mo_odds 27 = some (.goto 5, 30, [32]) := (congrArg (fun t => fxl t 27) e_134).trans rfl
theorem f_Mo_odds_30 : fx n_Mo_odds 30 = some (.bipush (-102), 32, []) := (congrArg (fun t => fxl t 30) e_134).trans rfl
theorem f_Mo_odds_32 : fx n_Mo_odds 32 = some (.ireturn, 33, []) := (congrArg (fun t => fxl t 32) e_134).trans rfl
theorem f_Mo_see_0 : fx n_Mo_see 0 = some (.aload_n 0, 1, []) := (congrArg (fun t => fxl t 0) e_135).trans rfl
theorem f_Mo_see_1 : fx n_Mo_see 1 = some (.iload_n 1, 2, []) := (congrArg (fun t => fxl t 1) e_135).trans rfl
theorem f_Mo_see_2 : fx n_Mo_see 2 = some (.invokevirtual 158, 5, [97, 1]) := (congrArg (fun t => fxl t 2) e_135).trans rfl
theorem f_Mo_see_5 : fx n_Mo_see 5 = some (.ifCond .ne 6, 8, [11]) := (congrArg (fun t => fxl t 5) e_135).trans rfl
theorem f_Mo_see_8 : fx n_Mo_see 8 = some (.bipush (-101), 10, []) := (congrArg (fun t => fxl t 8) e_135).trans rfl
theorem f_Mo_see_10 : fx n_Mo_see 10 = some (.ireturn, 11, []) := (congrArg (fun t => fxl t 10) e_135).trans rfl
theorem f_Mo_see_11 : fx n_Mo_see 11 = some (.iload_n 2, 12, []) := (congrArg (fun t => fxl t 11) e_135).trans rfl
theorem f_Mo_see_12 : fx n_Mo_see 12 = some (.i2l, 13, []) := (congrArg (fun t => fxl t 12) e_135).trans rfl
theorem f_Mo_see_13 : fx n_Mo_see 13 = some (.lconst 0, 14, []) := (congrArg (fun t => fxl t 13) e_135).trans rfl
theorem f_Mo_see_14 : fx n_Mo_see 14 = some (.ldc2_w 237, 17, []) := (congrArg (fun t => fxl t 14) e_135).trans rfl
theorem f_Mo_see_17 : fx n_Mo_see 17 = some (.invokestatic 73, 20, [85, 3]) := (congrArg (fun t => fxl t 17) e_135).trans rfl
theorem f_Mo_see_20 : fx n_Mo_see 20 = some (.ifCond .ne 6, 23, [26]) := (congrArg (fun t => fxl t 20) e_135).trans rfl
theorem f_Mo_see_23 : fx n_Mo_see 23 = some (.bipush (-102), 25, []) := (congrArg (fun t => fxl t 23) e_135).trans rfl
theorem f_Mo_see_25 : fx n_Mo_see 25 = some (.ireturn, 26, []) := (congrArg (fun t => fxl t 25) e_135).trans rfl
theorem f_Mo_see_26 : fx n_Mo_see 26 = some (.aload_n 0, 27, []) := (congrArg (fun t => fxl t 26) e_135).trans rfl
theorem f_Mo_see_27 : fx n_Mo_see 27 = some (.getfield 116, 30, [7, 19]) := (congrArg (fun t => fxl t 27) e_135).trans rfl
theorem f_Mo_see_30 : fx n_Mo_see 30 = some (.bipush 6, 32, []) := (congrArg (fun t => fxl t 30) e_135).trans rfl
theorem f_Mo_see_32 : fx n_Mo_see 32 = some (.if_icmp .ne 6, 35, [38]) := (congrArg (fun t => fxl t 32) e_135).trans rfl
theorem f_Mo_see_35 : fx n_Mo_see 35 = some (.bipush (-104), 37, []) := (congrArg (fun t => fxl t 35) e_135).trans rfl
theorem f_Mo_see_37 : fx n_Mo_see 37 = some (.ireturn, 38, []) := (congrArg (fun t => fxl t 37) e_135).trans rfl
theorem f_Mo_see_38 : fx n_Mo_see 38 = some (.aload_n 0, 39, []) := (congrArg (fun t => fxl t 38) e_135).trans rfl
theorem f_Mo_see_39 : fx n_Mo_see 39 = some (.getfield 46, 42, [7, 20]) := (congrArg (fun t => fxl t 39) e_135).trans rfl
theorem f_Mo_see_42 : fx n_Mo_see 42 = some (.iconst 3, 43, []) := (congrArg (fun t => fxl t 42) e_135).trans rfl
theorem f_Mo_see_43 : fx n_Mo_see 43 = some (.aload_n 0, 44, []) := (congrArg (fun t => fxl t 43) e_135).trans rfl
theorem f_Mo_see_44 : fx n_Mo_see 44 = some (.getfield 116, 47, [7, 19]) := (congrArg (fun t => fxl t 44) e_135).trans rfl
theorem f_Mo_see_47 : fx n_Mo_see 47 = some (.imul, 48, []) := (congrArg (fun t => fxl t 47) e_135).trans rfl
theorem f_Mo_see_48 : fx n_Mo_see 48 = some (.iload_n 1, 49, []) := (congrArg (fun t => fxl t 48) e_135).trans rfl
theorem f_Mo_see_49 : fx n_Mo_see 49 = some (.iastore, 50, []) := (congrArg (fun t => fxl t 49) e_135).trans rfl
theorem f_Mo_see_50 : fx n_Mo_see 50 = some (.aload_n 0, 51, []) := (congrArg (fun t => fxl t 50) e_135).trans rfl
theorem f_Mo_see_51 : fx n_Mo_see 51 = some (.getfield 46, 54, [7, 20]) := (congrArg (fun t => fxl t 51) e_135).trans rfl
theorem f_Mo_see_54 : fx n_Mo_see 54 = some (.iconst 3, 55, []) := (congrArg (fun t => fxl t 54) e_135).trans rfl
theorem f_Mo_see_55 : fx n_Mo_see 55 = some (.aload_n 0, 56, []) := (congrArg (fun t => fxl t 55) e_135).trans rfl
theorem f_Mo_see_56 : fx n_Mo_see 56 = some (.getfield 116, 59, [7, 19]) := (congrArg (fun t => fxl t 56) e_135).trans rfl
theorem f_Mo_see_59 : fx n_Mo_see 59 = some (.imul, 60, []) := (congrArg (fun t => fxl t 59) e_135).trans rfl
theorem f_Mo_see_60 : fx n_Mo_see 60 = some (.iconst 1, 61, []) := (congrArg (fun t => fxl t 60) e_135).trans rfl
theorem f_Mo_see_61 : fx n_Mo_see 61 = some (.iadd, 62, []) := (congrArg (fun t => fxl t 61) e_135).trans rfl
theorem f_Mo_see_62 : fx n_Mo_see 62 = some (.iload_n 2, 63, []) := (congrArg (fun t => fxl t 62) e_135).trans rfl
theorem f_Mo_see_63 : fx n_Mo_see 63 = some (.iastore, 64, []) := (congrArg (fun t => fxl t 63) e_135).trans rfl
theorem f_Mo_see_64 : fx n_Mo_see 64 = some (.aload_n 0, 65, []) := (congrArg (fun t => fxl t 64) e_135).trans rfl
theorem f_Mo_see_65 : fx n_Mo_see 65 = some (.getfield 46, 68, [7, 20]) := (congrArg (fun t => fxl t 65) e_135).trans rfl
theorem f_Mo_see_68 : fx n_Mo_see 68 = some (.iconst 3, 69, []) := (congrArg (fun t => fxl t 68) e_135).trans rfl
theorem f_Mo_see_69 : fx n_Mo_see 69 = some (.aload_n 0, 70, []) := (congrArg (fun t => fxl t 69) e_135).trans rfl
theorem f_Mo_see_70 : fx n_Mo_see 70 = some (.getfield 116, 73, [7, 19]) := (congrArg (fun t => fxl t 70) e_135).trans rfl
theorem f_Mo_see_73 : fx n_Mo_see 73 = some (.imul, 74, []) := (congrArg (fun t => fxl t 73) e_135).trans rfl
theorem f_Mo_see_74 : fx n_Mo_see 74 = some (.iconst 2, 75, []) := (congrArg (fun t => fxl t 74) e_135).trans rfl
theorem f_Mo_see_75 : fx n_Mo_see 75 = some (.iadd, 76, []) := (congrArg (fun t => fxl t 75) e_135).trans rfl
theorem f_Mo_see_76 : fx n_Mo_see 76 = some (.iload_n 3, 77, []) := (congrArg (fun t => fxl t 76) e_135).trans rfl
theorem f_Mo_see_77 : fx n_Mo_see 77 = some (.ifCond .eq 7, 80, [84]) := (congrArg (fun t => fxl t 77) e_135).trans rfl
theorem f_Mo_see_80 : fx n_Mo_see 80 = some (.iconst 1, 81, []) := (congrArg (fun t => fxl t 80) e_135).trans rfl
theorem f_Mo_see_81 : fx n_Mo_see 81 = some (.goto 4, 84, [85]) := (congrArg (fun t => fxl t 81) e_135).trans rfl
theorem f_Mo_see_84 : fx n_Mo_see 84 = some (.iconst 0, 85, []) := (congrArg (fun t => fxl t 84) e_135).trans rfl
theorem f_Mo_see_85 : fx n_Mo_see 85 = some (.iastore, 86, []) := (congrArg (fun t => fxl t 85) e_135).trans rfl
theorem f_Mo_see_86 : fx n_Mo_see 86 = some (.aload_n 0, 87, []) := (congrArg (fun t => fxl t 86) e_135).trans rfl
theorem f_Mo_see_87 : fx n_Mo_see 87 = some (.dup, 88, []) := (congrArg (fun t => fxl t 87) e_135).trans rfl
theorem f_Mo_see_88 : fx n_Mo_see 88 = some (.getfield 116, 91, [7, 19]) := (congrArg (fun t => fxl t 88) e_135).trans rfl
theorem f_Mo_see_91 : fx n_Mo_see 91 = some (.iconst 1, 92, []) := (congrArg (fun t => fxl t 91) e_135).trans rfl
theorem f_Mo_see_92 : fx n_Mo_see 92 = some (.iadd, 93, []) := (congrArg (fun t => fxl t 92) e_135).trans rfl
theorem f_Mo_see_93 : fx n_Mo_see 93 = some (.putfield 116, 96, [7, 19]) := (congrArg (fun t => fxl t 93) e_135).trans rfl
theorem f_Mo_see_96 : fx n_Mo_see 96 = some (.aload_n 0, 97, []) := (congrArg (fun t => fxl t 96) e_135).trans rfl
theorem f_Mo_see_97 : fx n_Mo_see 97 = some (.getfield 116, 100, [7, 19]) := (congrArg (fun t => fxl t 97) e_135).trans rfl
theorem f_Mo_see_100 : fx n_Mo_see 100 = some (.ireturn, 101, []) := (congrArg (fun t => fxl t 100) e_135).trans rfl
theorem f_Mo_forget_0 : fx n_Mo_forget 0 = some (.aload_n 0, 1, []) := (congrArg (fun t => fxl t 0) e_136).trans rfl
theorem f_Mo_forget_1 : fx n_Mo_forget 1 = some (.getfield 116, 4, [7, 19]) := (congrArg (fun t => fxl t 1) e_136).trans rfl
theorem f_Mo_forget_4 : fx n_Mo_forget 4 = some (.istore_n 1, 5, []) := (congrArg (fun t => fxl t 4) e_136).trans rfl
theorem f_Mo_forget_5 : fx n_Mo_forget 5 = some (.aload_n 0, 6, []) := (congrArg (fun t => fxl t 5) e_136).trans rfl
theorem f_Mo_forget_6 : fx n_Mo_forget 6 = some (.iconst 0, 7, []) := (congrArg (fun t => fxl t 6) e_136).trans rfl
theorem f_Mo_forget_7 : fx n_Mo_forget 7 = some (.putfield 116, 10, [7, 19]) := (congrArg (fun t => fxl t 7) e_136).trans rfl
theorem f_Mo_forget_10 : fx n_Mo_forget 10 = some (.iload_n 1, 11, []) := (congrArg (fun t => fxl t 10) e_136).trans rfl
theorem f_Mo_forget_11 : fx n_Mo_forget 11 = some (.ireturn, 12, []) := (congrArg (fun t => fxl t 11) e_136).trans rfl
theorem f_Mo_floodsIf_0 : fx n_Mo_floodsIf 0 = some (.aload_n 0, 1, []) := (congrArg (fun t => fxl t 0) e_137).trans rfl
theorem f_Mo_floodsIf_1 : fx n_Mo_floodsIf 1 = some (.getfield 13, 4, [7, 8]) := (congrArg (fun t => fxl t 1) e_137).trans rfl
theorem f_Mo_floodsIf_4 : fx n_Mo_floodsIf 4 = some (.iload_n 1, 5, []) := (congrArg (fun t => fxl t 4) e_137).trans rfl
theorem f_Mo_floodsIf_5 : fx n_Mo_floodsIf 5 = some (.iaload, 6, []) := (congrArg (fun t => fxl t 5) e_137).trans rfl
theorem f_Mo_floodsIf_6 : fx n_Mo_floodsIf 6 = some (.aload_n 0, 7, []) := (congrArg (fun t => fxl t 6) e_137).trans rfl
theorem f_Mo_floodsIf_7 : fx n_Mo_floodsIf 7 = some (.iload_n 1, 8, []) := (congrArg (fun t => fxl t 7) e_137).trans rfl
theorem f_Mo_floodsIf_8 : fx n_Mo_floodsIf 8 = some (.invokevirtual 140, 11, [102, 1]) := (congrArg (fun t => fxl t 8) e_137).trans rfl
theorem f_Mo_floodsIf_11 : fx n_Mo_floodsIf 11 = some (.iload_n 2, 12, []) := (congrArg (fun t => fxl t 11) e_137).trans rfl
theorem f_Mo_floodsIf_12 : fx n_Mo_floodsIf 12 = some (.iadd, 13, []) := (congrArg (fun t => fxl t 12) e_137).trans rfl
theorem f_Mo_floodsIf_13 : fx n_Mo_floodsIf 13 = some (.iload_n 3, 14, []) := (congrArg (fun t => fxl t 13) e_137).trans rfl
theorem f_Mo_floodsIf_14 : fx n_Mo_floodsIf 14 = some (.invokestatic 129, 17, [101, 3]) := (congrArg (fun t => fxl t 14) e_137).trans rfl
theorem f_Mo_floodsIf_17 : fx n_Mo_floodsIf 17 = some (.ifCond .eq 7, 20, [24]) := (congrArg (fun t => fxl t 17) e_137).trans rfl
theorem f_Mo_floodsIf_20 : fx n_Mo_floodsIf 20 = some (.iconst 1, 21, []) := (congrArg (fun t => fxl t 20) e_137).trans rfl
theorem f_Mo_floodsIf_21 : fx n_Mo_floodsIf 21 = some (.goto 4, 24, [25]) := (congrArg (fun t => fxl t 21) e_137).trans rfl
theorem f_Mo_floodsIf_24 : fx n_Mo_floodsIf 24 = some (.iconst 0, 25, []) := (congrArg (fun t => fxl t 24) e_137).trans rfl
theorem f_Mo_floodsIf_25 : fx n_Mo_floodsIf 25 = some (.ireturn, 26, []) := (congrArg (fun t => fxl t 25) e_137).trans rfl
theorem f_Mo_wildsOf_0 : fx n_Mo_wildsOf 0 = some (.iconst 0, 1, []) := (congrArg (fun t => fxl t 0) e_138).trans rfl
theorem f_Mo_wildsOf_1 : fx n_Mo_wildsOf 1 = some (.istore_n 2, 2, []) := (congrArg (fun t => fxl t 1) e_138).trans rfl
theorem f_Mo_wildsOf_2 : fx n_Mo_wildsOf 2 = some (.iconst 0, 3, []) := (congrArg (fun t => fxl t 2) e_138).trans rfl
theorem f_Mo_wildsOf_3 : fx n_Mo_wildsOf 3 = some (.istore_n 3, 4, []) := (congrArg (fun t => fxl t 3) e_138).trans rfl
theorem f_Mo_wildsOf_4 : fx n_Mo_wildsOf 4 = some (.iload_n 3, 5, []) := (congrArg (fun t => fxl t 4) e_138).trans rfl
theorem f_Mo_wildsOf_5 : fx n_Mo_wildsOf 5 = some (.bipush 10, 7, []) := (congrArg (fun t => fxl t 5) e_138).trans rfl
theorem f_Mo_wildsOf_7 : fx n_Mo_wildsOf 7 = some (.if_icmp .ge 97, 10, [104]) := (congrArg (fun t => fxl t 7) e_138).trans rfl
theorem f_Mo_wildsOf_10 : fx n_Mo_wildsOf 10 = some (.iconst 1, 11, []) := (congrArg (fun t => fxl t 10) e_138).trans rfl
theorem f_Mo_wildsOf_11 : fx n_Mo_wildsOf 11 = some (.istore 4, 13, []) := (congrArg (fun t => fxl t 11) e_138).trans rfl
theorem f_Mo_wildsOf_13 : fx n_Mo_wildsOf 13 = some (.iconst 0, 14, []) := (congrArg (fun t => fxl t 13) e_138).trans rfl
theorem f_Mo_wildsOf_14 : fx n_Mo_wildsOf 14 = some (.istore 5, 16, []) := (congrArg (fun t => fxl t 14) e_138).trans rfl
theorem f_Mo_wildsOf_16 : fx n_Mo_wildsOf 16 = some (.iload 5, 18, []) := (congrArg (fun t => fxl t 16) e_138).trans rfl
theorem f_Mo_wildsOf_18 : fx n_Mo_wildsOf 18 = some (.iconst 3, 19, []) := (congrArg (fun t => fxl t 18) e_138).trans rfl
theorem f_Mo_wildsOf_19 : fx n_Mo_wildsOf 19 = some (.aload_n 0, 20, []) := (congrArg (fun t => fxl t 19) e_138).trans rfl
theorem f_Mo_wildsOf_20 : fx n_Mo_wildsOf 20 = some (.getfield 116, 23, [7, 19]) := (congrArg (fun t => fxl t 20) e_138).trans rfl
theorem f_Mo_wildsOf_23 : fx n_Mo_wildsOf 23 = some (.imul, 24, []) := (congrArg (fun t => fxl t 23) e_138).trans rfl
theorem f_Mo_wildsOf_24 : fx n_Mo_wildsOf 24 = some (.if_icmp .ge 59, 27, [83]) := (congrArg (fun t => fxl t 24) e_138).trans rfl
theorem f_Mo_wildsOf_27 : fx n_Mo_wildsOf 27 = some (.aload_n 0, 28, []) := (congrArg (fun t => fxl t 27) e_138).trans rfl
theorem f_Mo_wildsOf_28 : fx n_Mo_wildsOf 28 = some (.getfield 46, 31, [7, 20]) := (congrArg (fun t => fxl t 28) e_138).trans rfl
theorem f_Mo_wildsOf_31 : fx n_Mo_wildsOf 31 = some (.iload 5, 33, []) := (congrArg (fun t => fxl t 31) e_138).trans rfl
theorem f_Mo_wildsOf_33 : fx n_Mo_wildsOf 33 = some (.iaload, 34, []) := (congrArg (fun t => fxl t 33) e_138).trans rfl
theorem f_Mo_wildsOf_34 : fx n_Mo_wildsOf 34 = some (.iload_n 1, 35, []) := (congrArg (fun t => fxl t 34) e_138).trans rfl
theorem f_Mo_wildsOf_35 : fx n_Mo_wildsOf 35 = some (.if_icmp .ne 42, 38, [77]) := (congrArg (fun t => fxl t 35) e_138).trans rfl
theorem f_Mo_wildsOf_38 : fx n_Mo_wildsOf 38 = some (.iload 4, 40, []) := (congrArg (fun t => fxl t 38) e_138).trans rfl
theorem f_Mo_wildsOf_40 : fx n_Mo_wildsOf 40 = some (.ifCond .eq 34, 43, [74]) := (congrArg (fun t => fxl t 40) e_138).trans rfl
theorem f_Mo_wildsOf_43 : fx n_Mo_wildsOf 43 = some (.aload_n 0, 44, []) := (congrArg (fun t => fxl t 43) e_138).trans rfl
theorem f_Mo_wildsOf_44 : fx n_Mo_wildsOf 44 = some (.iload_n 1, 45, []) := (congrArg (fun t => fxl t 44) e_138).trans rfl
theorem f_Mo_wildsOf_45 : fx n_Mo_wildsOf 45 = some (.aload_n 0, 46, []) := (congrArg (fun t => fxl t 45) e_138).trans rfl
theorem f_Mo_wildsOf_46 : fx n_Mo_wildsOf 46 = some (.getfield 46, 49, [7, 20]) := (congrArg (fun t => fxl t 46) e_138).trans rfl
theorem f_Mo_wildsOf_49 : fx n_Mo_wildsOf 49 = some (.iload 5, 51, []) := (congrArg (fun t => fxl t 49) e_138).trans rfl
theorem f_Mo_wildsOf_51 : fx n_Mo_wildsOf 51 = some (.iconst 1, 52, []) := (congrArg (fun t => fxl t 51) e_138).trans rfl
theorem f_Mo_wildsOf_52 : fx n_Mo_wildsOf 52 = some (.iadd, 53, []) := (congrArg (fun t => fxl t 52) e_138).trans rfl
theorem f_Mo_wildsOf_53 : fx n_Mo_wildsOf 53 = some (.iaload, 54, []) := (congrArg (fun t => fxl t 53) e_138).trans rfl
theorem f_Mo_wildsOf_54 : fx n_Mo_wildsOf 54 = some (.iload_n 3, 55, []) := (congrArg (fun t => fxl t 54) e_138).trans rfl
theorem f_Mo_wildsOf_55 : fx n_Mo_wildsOf 55 = some (.invokevirtual 239, 58, [137, 3]) := (congrArg (fun t => fxl t 55) e_138).trans rfl
theorem f_Mo_wildsOf_58 : fx n_Mo_wildsOf 58 = some (.aload_n 0, 59, []) := (congrArg (fun t => fxl t 58) e_138).trans rfl
theorem f_Mo_wildsOf_59 : fx n_Mo_wildsOf 59 = some (.getfield 46, 62, [7, 20]) := (congrArg (fun t => fxl t 59) e_138).trans rfl
theorem f_Mo_wildsOf_62 : fx n_Mo_wildsOf 62 = some (.iload 5, 64, []) := (congrArg (fun t => fxl t 62) e_138).trans rfl
theorem f_Mo_wildsOf_64 : fx n_Mo_wildsOf 64 = some (.iconst 2, 65, []) := (congrArg (fun t => fxl t 64) e_138).trans rfl
theorem f_Mo_wildsOf_65 : fx n_Mo_wildsOf 65 = some (.iadd, 66, []) := (congrArg (fun t => fxl t 65) e_138).trans rfl
theorem f_Mo_wildsOf_66 : fx n_Mo_wildsOf 66 = some (.iaload, 67, []) := (congrArg (fun t => fxl t 66) e_138).trans rfl
theorem f_Mo_wildsOf_67 : fx n_Mo_wildsOf 67 = some (.if_icmp .ne 7, 70, [74]) := (congrArg (fun t => fxl t 67) e_138).trans rfl
theorem f_Mo_wildsOf_70 : fx n_Mo_wildsOf 70 = some (.iconst 1, 71, []) := (congrArg (fun t => fxl t 70) e_138).trans rfl
theorem f_Mo_wildsOf_71 : fx n_Mo_wildsOf 71 = some (.goto 4, 74, [75]) := (congrArg (fun t => fxl t 71) e_138).trans rfl
theorem f_Mo_wildsOf_74 : fx n_Mo_wildsOf 74 = some (.iconst 0, 75, []) := (congrArg (fun t => fxl t 74) e_138).trans rfl
theorem f_Mo_wildsOf_75 : fx n_Mo_wildsOf 75 = some (.istore 4, 77, []) := (congrArg (fun t => fxl t 75) e_138).trans rfl
theorem f_Mo_wildsOf_77 : fx n_Mo_wildsOf 77 = some (.iinc 5 3, 80, []) := (congrArg (fun t => fxl t 77) e_138).trans rfl
theorem f_Mo_wildsOf_80 : fx n_Mo_wildsOf 80 = some (.goto (-64), 83, [16]) := (congrArg (fun t => fxl t 80) e_138).trans rfl
theorem f_Mo_wildsOf_83 : fx n_Mo_wildsOf 83 = some (.iload_n 2, 84, []) := (congrArg (fun t => fxl t 83) e_138).trans rfl
theorem f_Mo_wildsOf_84 : fx n_Mo_wildsOf 84 = some (.iload 4, 86, []) := (congrArg (fun t => fxl t 84) e_138).trans rfl
theorem f_Mo_wildsOf_86 : fx n_Mo_wildsOf 86 = some (.ifCond .eq 9, 89, [95]) := (congrArg (fun t => fxl t 86) e_138).trans rfl
theorem f_Mo_wildsOf_89 : fx n_Mo_wildsOf 89 = some (.iconst 1, 90, []) := (congrArg (fun t => fxl t 89) e_138).trans rfl
theorem f_Mo_wildsOf_90 : fx n_Mo_wildsOf 90 = some (.iload_n 3, 91, []) := (congrArg (fun t => fxl t 90) e_138).trans rfl
theorem f_Mo_wildsOf_91 : fx n_Mo_wildsOf 91 = some (.ishl, 92, []) := (congrArg (fun t => fxl t 91) e_138).trans rfl
theorem f_Mo_wildsOf_92 : fx n_Mo_wildsOf 92 = some (.goto 4, 95, [96]) := (congrArg (fun t => fxl t 92) e_138).trans rfl
theorem f_Mo_wildsOf_95 : fx n_Mo_wildsOf 95 = some (.iconst 0, 96, []) := (congrArg (fun t => fxl t 95) e_138).trans rfl
theorem f_Mo_wildsOf_96 : fx n_Mo_wildsOf 96 = some (.ior, 97, []) := (congrArg (fun t => fxl t 96) e_138).trans rfl
theorem f_Mo_wildsOf_97 : fx n_Mo_wildsOf 97 = some (.istore_n 2, 98, []) := (congrArg (fun t => fxl t 97) e_138).trans rfl
theorem f_Mo_wildsOf_98 : fx n_Mo_wildsOf 98 = some (.iinc 3 1, 101, []) := (congrArg (fun t => fxl t 98) e_138).trans rfl
theorem f_Mo_wildsOf_101 : fx n_Mo_wildsOf 101 = some (.goto (-97), 104, [4]) := (congrArg (fun t => fxl t 101) e_138).trans rfl
theorem f_Mo_wildsOf_104 : fx n_Mo_wildsOf 104 = some (.iload_n 2, 105, []) := (congrArg (fun t => fxl t 104) e_138).trans rfl
theorem f_Mo_wildsOf_105 : fx n_Mo_wildsOf 105 = some (.ireturn, 106, []) := (congrArg (fun t => fxl t 105) e_138).trans rfl
theorem f_Mo_rainOf_0 : fx n_Mo_rainOf 0 = some (.aload_n 0, 1, []) := (congrArg (fun t => fxl t 0) e_139).trans rfl
theorem f_Mo_rainOf_1 : fx n_Mo_rainOf 1 = some (.iload_n 1, 2, []) := (congrArg (fun t => fxl t 1) e_139).trans rfl
theorem f_Mo_rainOf_2 : fx n_Mo_rainOf 2 = some (.invokevirtual 146, 5, [138, 1]) := (congrArg (fun t => fxl t 2) e_139).trans rfl
theorem f_Mo_rainOf_5 : fx n_Mo_rainOf 5 = some (.istore_n 2, 6, []) := (congrArg (fun t => fxl t 5) e_139).trans rfl
theorem f_Mo_rainOf_6 : fx n_Mo_rainOf 6 = some (.iconst (-1), 7, []) := (congrArg (fun t => fxl t 6) e_139).trans rfl
theorem f_Mo_rainOf_7 : fx n_Mo_rainOf 7 = some (.istore_n 3, 8, []) := (congrArg (fun t => fxl t 7) e_139).trans rfl
theorem f_Mo_rainOf_8 : fx n_Mo_rainOf 8 = some (.bipush 11, 10, []) := (congrArg (fun t => fxl t 8) e_139).trans rfl
theorem f_Mo_rainOf_10 : fx n_Mo_rainOf 10 = some (.istore 4, 12, []) := (congrArg (fun t => fxl t 10) e_139).trans rfl
theorem f_Mo_rainOf_12 : fx n_Mo_rainOf 12 = some (.iconst 0, 13, []) := (congrArg (fun t => fxl t 12) e_139).trans rfl
theorem f_Mo_rainOf_13 : fx n_Mo_rainOf 13 = some (.istore 5, 15, []) := (congrArg (fun t => fxl t 13) e_139).trans rfl
theorem f_Mo_rainOf_15 : fx n_Mo_rainOf 15 = some (.iload 5, 17, []) := (congrArg (fun t => fxl t 15) e_139).trans rfl
theorem f_Mo_rainOf_17 : fx n_Mo_rainOf 17 = some (.bipush 21, 19, []) := (congrArg (fun t => fxl t 17) e_139).trans rfl
theorem f_Mo_rainOf_19 : fx n_Mo_rainOf 19 = some (.if_icmp .ge 125, 22, [144]) := (congrArg (fun t => fxl t 19) e_139).trans rfl
theorem f_Mo_rainOf_22 : fx n_Mo_rainOf 22 = some (.iload_n 2, 23, []) := (congrArg (fun t => fxl t 22) e_139).trans rfl
theorem f_Mo_rainOf_23 : fx n_Mo_rainOf 23 = some (.ifCond .eq 121, 26, [144]) := (congrArg (fun t => fxl t 23) e_139).trans rfl
theorem f_Mo_rainOf_26 : fx n_Mo_rainOf 26 = some (.iconst 0, 27, []) := (congrArg (fun t => fxl t 26) e_139).trans rfl
theorem f_Mo_rainOf_27 : fx n_Mo_rainOf 27 = some (.istore 6, 29, []) := (congrArg (fun t => fxl t 27) e_139).trans rfl
theorem f_Mo_rainOf_29 : fx n_Mo_rainOf 29 = some (.iconst 0, 30, []) := (congrArg (fun t => fxl t 29) e_139).trans rfl
theorem f_Mo_rainOf_30 : fx n_Mo_rainOf 30 = some (.istore 7, 32, []) := (congrArg (fun t => fxl t 30) e_139).trans rfl
theorem f_Mo_rainOf_32 : fx n_Mo_rainOf 32 = some (.iconst 0, 33, []) := (congrArg (fun t => fxl t 32) e_139).trans rfl
theorem f_Mo_rainOf_33 : fx n_Mo_rainOf 33 = some (.istore 8, 35, []) := (congrArg (fun t => fxl t 33) e_139).trans rfl
theorem f_Mo_rainOf_35 : fx n_Mo_rainOf 35 = some (.iload 8, 37, []) := (congrArg (fun t => fxl t 35) e_139).trans rfl
theorem f_Mo_rainOf_37 : fx n_Mo_rainOf 37 = some (.bipush 10, 39, []) := (congrArg (fun t => fxl t 37) e_139).trans rfl
theorem f_Mo_rainOf_39 : fx n_Mo_rainOf 39 = some (.if_icmp .ge 53, 42, [92]) := (congrArg (fun t => fxl t 39) e_139).trans rfl
theorem f_Mo_rainOf_42 : fx n_Mo_rainOf 42 = some (.iload_n 2, 43, []) := (congrArg (fun t => fxl t 42) e_139).trans rfl
theorem f_Mo_rainOf_43 : fx n_Mo_rainOf 43 = some (.iload 8, 45, []) := (congrArg (fun t => fxl t 43) e_139).trans rfl
theorem f_Mo_rainOf_45 : fx n_Mo_rainOf 45 = some (.ishr, 46, []) := (congrArg (fun t => fxl t 45) e_139).trans rfl
theorem f_Mo_rainOf_46 : fx n_Mo_rainOf 46 = some (.iconst 1, 47, []) := (congrArg (fun t => fxl t 46) e_139).trans rfl
theorem f_Mo_rainOf_47 : fx n_Mo_rainOf 47 = some (.iand, 48, []) := (congrArg (fun t => fxl t 47) e_139).trans rfl
theorem f_Mo_rainOf_48 : fx n_Mo_rainOf 48 = some (.istore 9, 50, []) := (congrArg (fun t => fxl t 48) e_139).trans rfl
theorem f_Mo_rainOf_50 : fx n_Mo_rainOf 50 = some (.iload 6, 52, []) := (congrArg (fun t => fxl t 50) e_139).trans rfl
theorem f_Mo_rainOf_52 : fx n_Mo_rainOf 52 = some (.iload 9, 54, []) := (congrArg (fun t => fxl t 52) e_139).trans rfl
theorem f_Mo_rainOf_54 : fx n_Mo_rainOf 54 = some (.aload_n 0, 55, []) := (congrArg (fun t => fxl t 54) e_139).trans rfl
theorem f_Mo_rainOf_55 : fx n_Mo_rainOf 55 = some (.iload_n 1, 56, []) := (congrArg (fun t => fxl t 55) e_139).trans rfl
theorem f_Mo_rainOf_56 : fx n_Mo_rainOf 56 = some (.iload 5, 58, []) := (congrArg (fun t => fxl t 56) e_139).trans rfl
theorem f_Mo_rainOf_58 : fx n_Mo_rainOf 58 = some (.iload 8, 60, []) := (congrArg (fun t => fxl t 58) e_139).trans rfl
theorem f_Mo_rainOf_60 : fx n_Mo_rainOf 60 = some (.invokevirtual 239, 63, [137, 3]) := (congrArg (fun t => fxl t 60) e_139).trans rfl
theorem f_Mo_rainOf_63 : fx n_Mo_rainOf 63 = some (.imul, 64, []) := (congrArg (fun t => fxl t 63) e_139).trans rfl
theorem f_Mo_rainOf_64 : fx n_Mo_rainOf 64 = some (.iadd, 65, []) := (congrArg (fun t => fxl t 64) e_139).trans rfl
theorem f_Mo_rainOf_65 : fx n_Mo_rainOf 65 = some (.istore 6, 67, []) := (congrArg (fun t => fxl t 65) e_139).trans rfl
theorem f_Mo_rainOf_67 : fx n_Mo_rainOf 67 = some (.iload 7, 69, []) := (congrArg (fun t => fxl t 67) e_139).trans rfl
theorem f_Mo_rainOf_69 : fx n_Mo_rainOf 69 = some (.iload 9, 71, []) := (congrArg (fun t => fxl t 69) e_139).trans rfl
theorem f_Mo_rainOf_71 : fx n_Mo_rainOf 71 = some (.iconst 1, 72, []) := (congrArg (fun t => fxl t 71) e_139).trans rfl
theorem f_Mo_rainOf_72 : fx n_Mo_rainOf 72 = some (.aload_n 0, 73, []) := (congrArg (fun t => fxl t 72) e_139).trans rfl
theorem f_Mo_rainOf_73 : fx n_Mo_rainOf 73 = some (.iload_n 1, 74, []) := (congrArg (fun t => fxl t 73) e_139).trans rfl
theorem f_Mo_rainOf_74 : fx n_Mo_rainOf 74 = some (.iload 5, 76, []) := (congrArg (fun t => fxl t 74) e_139).trans rfl
theorem f_Mo_rainOf_76 : fx n_Mo_rainOf 76 = some (.iload 8, 78, []) := (congrArg (fun t => fxl t 76) e_139).trans rfl
theorem f_Mo_rainOf_78 : fx n_Mo_rainOf 78 = some (.invokevirtual 239, 81, [137, 3]) := (congrArg (fun t => fxl t 78) e_139).trans rfl
theorem f_Mo_rainOf_81 : fx n_Mo_rainOf 81 = some (.isub, 82, []) := (congrArg (fun t => fxl t 81) e_139).trans rfl
theorem f_Mo_rainOf_82 : fx n_Mo_rainOf 82 = some (.imul, 83, []) := (congrArg (fun t => fxl t 82) e_139).trans rfl
theorem f_Mo_rainOf_83 : fx n_Mo_rainOf 83 = some (.iadd, 84, []) := (congrArg (fun t => fxl t 83) e_139).trans rfl
theorem f_Mo_rainOf_84 : fx n_Mo_rainOf 84 = some (.istore 7, 86, []) := (congrArg (fun t => fxl t 84) e_139).trans rfl
theorem f_Mo_rainOf_86 : fx n_Mo_rainOf 86 = some (.iinc 8 1, 89, []) := (congrArg (fun t => fxl t 86) e_139).trans rfl
theorem f_Mo_rainOf_89 : fx n_Mo_rainOf 89 = some (.goto (-54), 92, [35]) := (congrArg (fun t => fxl t 89) e_139).trans rfl
theorem f_Mo_rainOf_92 : fx n_Mo_rainOf 92 = some (.iload 6, 94, []) := (congrArg (fun t => fxl t 92) e_139).trans rfl
theorem f_Mo_rainOf_94 : fx n_Mo_rainOf 94 = some (.iload 7, 96, []) := (congrArg (fun t => fxl t 94) e_139).trans rfl
theorem f_Mo_rainOf_96 : fx n_Mo_rainOf 96 = some (.if_icmp .le 8, 99, [104]) := (congrArg (fun t => fxl t 96) e_139).trans rfl
theorem f_Mo_rainOf_99 : fx n_Mo_rainOf 99 = some (.iload 6, 101, []) := (congrArg (fun t => fxl t 99) e_139).trans rfl
theorem f_Mo_rainOf_101 : fx n_Mo_rainOf 101 = some (.goto 5, 104, [106]) := (congrArg (fun t => fxl t 101) e_139).trans rfl
theorem f_Mo_rainOf_104 : fx n_Mo_rainOf 104 = some (.iload 7, 106, []) := (congrArg (fun t => fxl t 104) e_139).trans rfl
theorem f_Mo_rainOf_106 : fx n_Mo_rainOf 106 = some (.istore 8, 108, []) := (congrArg (fun t => fxl t 106) e_139).trans rfl
theorem f_Mo_rainOf_108 : fx n_Mo_rainOf 108 = some (.iload 8, 110, []) := (congrArg (fun t => fxl t 108) e_139).trans rfl
theorem f_Mo_rainOf_110 : fx n_Mo_rainOf 110 = some (.iload 4, 112, []) := (congrArg (fun t => fxl t 110) e_139).trans rfl
theorem f_Mo_rainOf_112 : fx n_Mo_rainOf 112 = some (.if_icmp .ge 8, 115, [120]) := (congrArg (fun t => fxl t 112) e_139).trans rfl
theorem f_Mo_rainOf_115 : fx n_Mo_rainOf 115 = some (.iload 5, 117, []) := (congrArg (fun t => fxl t 115) e_139).trans rfl
theorem f_Mo_rainOf_117 : fx n_Mo_rainOf 117 = some (.goto 4, 120, [121]) := (congrArg (fun t => fxl t 117) e_139).trans rfl
theorem f_Mo_rainOf_120 : fx n_Mo_rainOf 120 = some (.iload_n 3, 121, []) := (congrArg (fun t => fxl t 120) e_139).trans rfl
theorem f_Mo_rainOf_121 : fx n_Mo_rainOf 121 = some (.istore_n 3, 122, []) := (congrArg (fun t => fxl t 121) e_139).trans rfl
theorem f_Mo_rainOf_122 : fx n_Mo_rainOf 122 = some (.iload 8, 124, []) := (congrArg (fun t => fxl t 122) e_139).trans rfl
theorem f_Mo_rainOf_124 : fx n_Mo_rainOf 124 = some (.iload 4, 126, []) := (congrArg (fun t => fxl t 124) e_139).trans rfl
theorem f_Mo_rainOf_126 : fx n_Mo_rainOf 126 = some (.if_icmp .ge 8, 129, [134]) := (congrArg (fun t => fxl t 126) e_139).trans rfl
theorem f_Mo_rainOf_129 : fx n_Mo_rainOf 129 = some (.iload 8, 131, []) := (congrArg (fun t => fxl t 129) e_139).trans rfl
theorem f_Mo_rainOf_131 : fx n_Mo_rainOf 131 = some (.goto 5, 134, [136]) := (congrArg (fun t => fxl t 131) e_139).trans rfl
theorem f_Mo_rainOf_134 : fx n_Mo_rainOf 134 = some (.iload 4, 136, []) := (congrArg (fun t => fxl t 134) e_139).trans rfl
theorem f_Mo_rainOf_136 : fx n_Mo_rainOf 136 = some (.istore 4, 138, []) := (congrArg (fun t => fxl t 136) e_139).trans rfl
theorem f_Mo_rainOf_138 : fx n_Mo_rainOf 138 = some (.iinc 5 1, 141, []) := (congrArg (fun t => fxl t 138) e_139).trans rfl
theorem f_Mo_rainOf_141 : fx n_Mo_rainOf 141 = some (.goto (-126), 144, [15]) := (congrArg (fun t => fxl t 141) e_139).trans rfl
theorem f_Mo_rainOf_144 : fx n_Mo_rainOf 144 = some (.iload_n 3, 145, []) := (congrArg (fun t => fxl t 144) e_139).trans rfl
theorem f_Mo_rainOf_145 : fx n_Mo_rainOf 145 = some (.ireturn, 146, []) := (congrArg (fun t => fxl t 145) e_139).trans rfl
theorem f_Mo_draw_0 : fx n_Mo_draw 0 = some (.aload_n 0, 1, []) := (congrArg (fun t => fxl t 0) e_140).trans rfl
theorem f_Mo_draw_1 : fx n_Mo_draw 1 = some (.ldc2_w 242, 4, []) := (congrArg (fun t => fxl t 1) e_140).trans rfl
theorem f_Mo_draw_4 : fx n_Mo_draw 4 = some (.aload_n 0, 5, []) := (congrArg (fun t => fxl t 4) e_140).trans rfl
theorem f_Mo_draw_5 : fx n_Mo_draw 5 = some (.getfield 244, 8, [7, 21]) := (congrArg (fun t => fxl t 5) e_140).trans rfl
theorem f_Mo_draw_8 : fx n_Mo_draw 8 = some (.i2l, 9, []) := (congrArg (fun t => fxl t 8) e_140).trans rfl
theorem f_Mo_draw_9 : fx n_Mo_draw 9 = some (.lmul, 10, []) := (congrArg (fun t => fxl t 9) e_140).trans rfl
theorem f_Mo_draw_10 : fx n_Mo_draw 10 = some (.ldc2_w 247, 13, []) := (congrArg (fun t => fxl t 10) e_140).trans rfl
theorem f_Mo_draw_13 : fx n_Mo_draw 13 = some (.ladd, 14, []) := (congrArg (fun t => fxl t 13) e_140).trans rfl
theorem f_Mo_draw_14 : fx n_Mo_draw 14 = some (.ldc2_w 249, 17, []) := (congrArg (fun t => fxl t 14) e_140).trans rfl
theorem f_Mo_draw_17 : fx n_Mo_draw 17 = some (.land, 18, []) := (congrArg (fun t => fxl t 17) e_140).trans rfl
theorem f_Mo_draw_18 : fx n_Mo_draw 18 = some (.l2i, 19, []) := (congrArg (fun t => fxl t 18) e_140).trans rfl
theorem f_Mo_draw_19 : fx n_Mo_draw 19 = some (.putfield 244, 22, [7, 21]) := (congrArg (fun t => fxl t 19) e_140).trans rfl
theorem f_Mo_draw_22 : fx n_Mo_draw 22 = some (.aload_n 0, 23, []) := (congrArg (fun t => fxl t 22) e_140).trans rfl
theorem f_Mo_draw_23 : fx n_Mo_draw 23 = some (.getfield 244, 26, [7, 21]) := (congrArg (fun t => fxl t 23) e_140).trans rfl
theorem f_Mo_draw_26 : fx n_Mo_draw 26 = some (.ldc 251, 28, []) := (congrArg (fun t => fxl t 26) e_140).trans rfl
theorem f_Mo_draw_28 : fx n_Mo_draw 28 = some (.idiv, 29, []) := (congrArg (fun t => fxl t 28) e_140).trans rfl
theorem f_Mo_draw_29 : fx n_Mo_draw 29 = some (.iload_n 1, 30, []) := (congrArg (fun t => fxl t 29) e_140).trans rfl
theorem f_Mo_draw_30 : fx n_Mo_draw 30 = some (.irem, 31, []) := (congrArg (fun t => fxl t 30) e_140).trans rfl
theorem f_Mo_draw_31 : fx n_Mo_draw 31 = some (.ireturn, 32, []) := (congrArg (fun t => fxl t 31) e_140).trans rfl
theorem f_Mo_years_0 : fx n_Mo_years 0 = some (.iload_n 1, 1, []) := (congrArg (fun t => fxl t 0) e_141).trans rfl
theorem f_Mo_years_1 : fx n_Mo_years 1 = some (.i2l, 2, []) := (congrArg (fun t => fxl t 1) e_141).trans rfl
theorem f_Mo_years_2 : fx n_Mo_years 2 = some (.lconst 1, 3, []) := (congrArg (fun t => fxl t 2) e_141).trans rfl
theorem f_Mo_years_3 : fx n_Mo_years 3 = some (.ldc2_w 252, 6, []) := (congrArg (fun t => fxl t 3) e_141).trans rfl
theorem f_Mo_years_6 : fx n_Mo_years 6 = some (.invokestatic 73, 9, [85, 3]) := (congrArg (fun t => fxl t 6) e_141).trans rfl
theorem f_Mo_years_9 : fx n_Mo_years 9 = some (.ifCond .eq 19, 12, [28]) := (congrArg (fun t => fxl t 9) e_141).trans rfl
theorem f_Mo_years_12 : fx n_Mo_years 12 = some (.iload_n 2, 13, []) := (congrArg (fun t => fxl t 12) e_141).trans rfl
theorem f_Mo_years_13 : fx n_Mo_years 13 = some (.ifCond .lt 15, 16, [28]) := (congrArg (fun t => fxl t 13) e_141).trans rfl
theorem f_Mo_years_16 : fx n_Mo_years 16 = some (.iload_n 3, 17, []) := (congrArg (fun t => fxl t 16) e_141).trans rfl
theorem f_Mo_years_17 : fx n_Mo_years 17 = some (.i2l, 18, []) := (congrArg (fun t => fxl t 17) e_141).trans rfl
theorem f_Mo_years_18 : fx n_Mo_years 18 = some (.lconst 0, 19, []) := (congrArg (fun t => fxl t 18) e_141).trans rfl
theorem f_Mo_years_19 : fx n_Mo_years 19 = some (.ldc2_w 254, 22, []) := (congrArg (fun t => fxl t 19) e_141).trans rfl
theorem f_Mo_years_22 : fx n_Mo_years 22 = some (.invokestatic 73, 25, [85, 3]) := (congrArg (fun t => fxl t 22) e_141).trans rfl
theorem f_Mo_years_25 : fx n_Mo_years 25 = some (.ifCond .ne 6, 28, [31]) := (congrArg (fun t => fxl t 25) e_141).trans rfl
theorem f_Mo_years_28 : fx n_Mo_years 28 = some (.bipush (-102), 30, []) := (congrArg (fun t => fxl t 28) e_141).trans rfl
theorem f_Mo_years_30 : fx n_Mo_years 30 = some (.ireturn, 31, []) := (congrArg (fun t => fxl t 30) e_141).trans rfl
theorem f_Mo_years_31 : fx n_Mo_years 31 = some (.aload_n 0, 32, []) := (congrArg (fun t => fxl t 31) e_141).trans rfl
theorem f_Mo_years_32 : fx n_Mo_years 32 = some (.invokevirtual 169, 35, [96, 0]) := (congrArg (fun t => fxl t 32) e_141).trans rfl
theorem f_Mo_years_35 : fx n_Mo_years 35 = some (.ifCond .eq 6, 38, [41]) := (congrArg (fun t => fxl t 35) e_141).trans rfl
theorem f_Mo_years_38 : fx n_Mo_years 38 = some (.bipush (-103), 40, []) := (congrArg (fun t => fxl t 38) e_141).trans rfl
theorem f_Mo_years_40 : fx n_Mo_years 40 = some (.ireturn, 41, []) := (congrArg (fun t => fxl t 40) e_141).trans rfl
theorem f_Mo_years_41 : fx n_Mo_years 41 = some (.aload_n 0, 42, []) := (congrArg (fun t => fxl t 41) e_141).trans rfl
theorem f_Mo_years_42 : fx n_Mo_years 42 = some (.iload_n 2, 43, []) := (congrArg (fun t => fxl t 42) e_141).trans rfl
theorem f_Mo_years_43 : fx n_Mo_years 43 = some (.putfield 244, 46, [7, 21]) := (congrArg (fun t => fxl t 43) e_141).trans rfl
theorem f_Mo_years_46 : fx n_Mo_years 46 = some (.aload_n 0, 47, []) := (congrArg (fun t => fxl t 46) e_141).trans rfl
theorem f_Mo_years_47 : fx n_Mo_years 47 = some (.invokevirtual 173, 50, [106, 0]) := (congrArg (fun t => fxl t 47) e_141).trans rfl
theorem f_Mo_years_50 : fx n_Mo_years 50 = some (.aload_n 0, 51, []) := (congrArg (fun t => fxl t 50) e_141).trans rfl
theorem f_Mo_years_51 : fx n_Mo_years 51 = some (.getfield 16, 54, [7, 9]) := (congrArg (fun t => fxl t 51) e_141).trans rfl
theorem f_Mo_years_54 : fx n_Mo_years 54 = some (.aload_n 0, 55, []) := (congrArg (fun t => fxl t 54) e_141).trans rfl
theorem f_Mo_years_55 : fx n_Mo_years 55 = some (.getfield 49, 58, [7, 22]) := (congrArg (fun t => fxl t 55) e_141).trans rfl
theorem f_Mo_years_58 : fx n_Mo_years 58 = some (.invokestatic 133, 61, [86, 2]) := (congrArg (fun t => fxl t 58) e_141).trans rfl
theorem f_Mo_years_61 : fx n_Mo_years 61 = some (.iconst 0, 62, []) := (congrArg (fun t => fxl t 61) e_141).trans rfl
theorem f_Mo_years_62 : fx n_Mo_years 62 = some (.istore 4, 64, []) := (congrArg (fun t => fxl t 62) e_141).trans rfl
theorem f_Mo_years_64 : fx n_Mo_years 64 = some (.iconst 1, 65, []) := (congrArg (fun t => fxl t 64) e_141).trans rfl
theorem f_Mo_years_65 : fx n_Mo_years 65 = some (.istore 5, 67, []) := (congrArg (fun t => fxl t 65) e_141).trans rfl
theorem f_Mo_years_67 : fx n_Mo_years 67 = some (.iload 5, 69, []) := (congrArg (fun t => fxl t 67) e_141).trans rfl
theorem f_Mo_years_69 : fx n_Mo_years 69 = some (.iload_n 1, 70, []) := (congrArg (fun t => fxl t 69) e_141).trans rfl
theorem f_Mo_years_70 : fx n_Mo_years 70 = some (.if_icmp .gt 84, 73, [154]) := (congrArg (fun t => fxl t 70) e_141).trans rfl
theorem f_Mo_years_73 : fx n_Mo_years 73 = some (.aload_n 0, 74, []) := (congrArg (fun t => fxl t 73) e_141).trans rfl
theorem f_Mo_years_74 : fx n_Mo_years 74 = some (.getfield 34, 77, [7, 15]) := (congrArg (fun t => fxl t 74) e_141).trans rfl
theorem f_Mo_years_77 : fx n_Mo_years 77 = some (.iconst 0, 78, []) := (congrArg (fun t => fxl t 77) e_141).trans rfl
theorem f_Mo_years_78 : fx n_Mo_years 78 = some (.aload_n 0, 79, []) := (congrArg (fun t => fxl t 78) e_141).trans rfl
theorem f_Mo_years_79 : fx n_Mo_years 79 = some (.aload_n 0, 80, []) := (congrArg (fun t => fxl t 79) e_141).trans rfl
theorem f_Mo_years_80 : fx n_Mo_years 80 = some (.getfield 104, 83, [7, 3]) := (congrArg (fun t => fxl t 80) e_141).trans rfl
theorem f_Mo_years_83 : fx n_Mo_years 83 = some (.invokevirtual 256, 86, [140, 1]) := (congrArg (fun t => fxl t 83) e_141).trans rfl
theorem f_Mo_years_86 : fx n_Mo_years 86 = some (.iastore, 87, []) := (congrArg (fun t => fxl t 86) e_141).trans rfl
theorem f_Mo_years_87 : fx n_Mo_years 87 = some (.aload_n 0, 88, []) := (congrArg (fun t => fxl t 87) e_141).trans rfl
theorem f_Mo_years_88 : fx n_Mo_years 88 = some (.aload_n 0, 89, []) := (congrArg (fun t => fxl t 88) e_141).trans rfl
theorem f_Mo_years_89 : fx n_Mo_years 89 = some (.getfield 104, 92, [7, 3]) := (congrArg (fun t => fxl t 89) e_141).trans rfl
theorem f_Mo_years_92 : fx n_Mo_years 92 = some (.invokevirtual 256, 95, [140, 1]) := (congrArg (fun t => fxl t 92) e_141).trans rfl
theorem f_Mo_years_95 : fx n_Mo_years 95 = some (.istore 6, 97, []) := (congrArg (fun t => fxl t 95) e_141).trans rfl
theorem f_Mo_years_97 : fx n_Mo_years 97 = some (.aload_n 0, 98, []) := (congrArg (fun t => fxl t 97) e_141).trans rfl
theorem f_Mo_years_98 : fx n_Mo_years 98 = some (.getfield 16, 101, [7, 9]) := (congrArg (fun t => fxl t 98) e_141).trans rfl
theorem f_Mo_years_101 : fx n_Mo_years 101 = some (.iload 6, 103, []) := (congrArg (fun t => fxl t 101) e_141).trans rfl
theorem f_Mo_years_103 : fx n_Mo_years 103 = some (.dup2, 104, []) := (congrArg (fun t => fxl t 103) e_141).trans rfl
theorem f_Mo_years_104 : fx n_Mo_years 104 = some (.iaload, 105, []) := (congrArg (fun t => fxl t 104) e_141).trans rfl
theorem f_Mo_years_105 : fx n_Mo_years 105 = some (.aload_n 0, 106, []) := (congrArg (fun t => fxl t 105) e_141).trans rfl
theorem f_Mo_years_106 : fx n_Mo_years 106 = some (.getfield 16, 109, [7, 9]) := (congrArg (fun t => fxl t 106) e_141).trans rfl
theorem f_Mo_years_109 : fx n_Mo_years 109 = some (.iload 6, 111, []) := (congrArg (fun t => fxl t 109) e_141).trans rfl
theorem f_Mo_years_111 : fx n_Mo_years 111 = some (.iaload, 112, []) := (congrArg (fun t => fxl t 111) e_141).trans rfl
theorem f_Mo_years_112 : fx n_Mo_years 112 = some (.bipush 9, 114, []) := (congrArg (fun t => fxl t 112) e_141).trans rfl
theorem f_Mo_years_114 : fx n_Mo_years 114 = some (.if_icmp .ge 7, 117, [121]) := (congrArg (fun t => fxl t 114) e_141).trans rfl
theorem f_Mo_years_117 : fx n_Mo_years 117 = some (.iconst 1, 118, []) := (congrArg (fun t => fxl t 117) e_141).trans rfl
theorem f_Mo_years_118 : fx n_Mo_years 118 = some (.goto 4, 121, [122]) := (congrArg (fun t => fxl t 118) e_141).trans rfl
theorem f_Mo_years_121 : fx n_Mo_years 121 = some (.iconst 0, 122, []) := (congrArg (fun t => fxl t 121) e_141).trans rfl
theorem f_Mo_years_122 : fx n_Mo_years 122 = some (.iadd, 123, []) := (congrArg (fun t => fxl t 122) e_141).trans rfl
theorem f_Mo_years_123 : fx n_Mo_years 123 = some (.iastore, 124, []) := (congrArg (fun t => fxl t 123) e_141).trans rfl
theorem f_Mo_years_124 : fx n_Mo_years 124 = some (.aload_n 0, 125, []) := (congrArg (fun t => fxl t 124) e_141).trans rfl
theorem f_Mo_years_125 : fx n_Mo_years 125 = some (.aload_n 0, 126, []) := (congrArg (fun t => fxl t 125) e_141).trans rfl
theorem f_Mo_years_126 : fx n_Mo_years 126 = some (.getfield 110, 129, [7, 5]) := (congrArg (fun t => fxl t 126) e_141).trans rfl
theorem f_Mo_years_129 : fx n_Mo_years 129 = some (.iload 5, 131, []) := (congrArg (fun t => fxl t 129) e_141).trans rfl
theorem f_Mo_years_131 : fx n_Mo_years 131 = some (.iadd, 132, []) := (congrArg (fun t => fxl t 131) e_141).trans rfl
theorem f_Mo_years_132 : fx n_Mo_years 132 = some (.invokevirtual 176, 135, [107, 1]) := (congrArg (fun t => fxl t 132) e_141).trans rfl
theorem f_Mo_years_135 : fx n_Mo_years 135 = some (.iload 4, 137, []) := (congrArg (fun t => fxl t 135) e_141).trans rfl
theorem f_Mo_years_137 : fx n_Mo_years 137 = some (.aload_n 0, 138, []) := (congrArg (fun t => fxl t 137) e_141).trans rfl
theorem f_Mo_years_138 : fx n_Mo_years 138 = some (.aload_n 0, 139, []) := (congrArg (fun t => fxl t 138) e_141).trans rfl
theorem f_Mo_years_139 : fx n_Mo_years 139 = some (.getfield 31, 142, [7, 14]) := (congrArg (fun t => fxl t 139) e_141).trans rfl
theorem f_Mo_years_142 : fx n_Mo_years 142 = some (.invokevirtual 194, 145, [103, 1]) := (congrArg (fun t => fxl t 142) e_141).trans rfl
theorem f_Mo_years_145 : fx n_Mo_years 145 = some (.iadd, 146, []) := (congrArg (fun t => fxl t 145) e_141).trans rfl
theorem f_Mo_years_146 : fx n_Mo_years 146 = some (.istore 4, 148, []) := (congrArg (fun t => fxl t 146) e_141).trans rfl
theorem f_Mo_years_148 : fx n_Mo_years 148 = some (.iinc 5 1, 151, []) := (congrArg (fun t => fxl t 148) e_141).trans rfl
theorem f_Mo_years_151 : fx n_Mo_years 151 = some (.goto (-84), 154, [67]) := (congrArg (fun t => fxl t 151) e_141).trans rfl
theorem f_Mo_years_154 : fx n_Mo_years 154 = some (.aload_n 0, 155, []) := (congrArg (fun t => fxl t 154) e_141).trans rfl
theorem f_Mo_years_155 : fx n_Mo_years 155 = some (.getfield 49, 158, [7, 22]) := (congrArg (fun t => fxl t 155) e_141).trans rfl
theorem f_Mo_years_158 : fx n_Mo_years 158 = some (.aload_n 0, 159, []) := (congrArg (fun t => fxl t 158) e_141).trans rfl
theorem f_Mo_years_159 : fx n_Mo_years 159 = some (.getfield 16, 162, [7, 9]) := (congrArg (fun t => fxl t 159) e_141).trans rfl
theorem f_Mo_years_162 : fx n_Mo_years 162 = some (.invokestatic 133, 165, [86, 2]) := (congrArg (fun t => fxl t 162) e_141).trans rfl
theorem f_Mo_years_165 : fx n_Mo_years 165 = some (.iload_n 3, 166, []) := (congrArg (fun t => fxl t 165) e_141).trans rfl
theorem f_Mo_years_166 : fx n_Mo_years 166 = some (.ifCond .ne 8, 169, [174]) := (congrArg (fun t => fxl t 166) e_141).trans rfl
theorem f_Mo_years_169 : fx n_Mo_years 169 = some (.iload 4, 171, []) := (congrArg (fun t => fxl t 169) e_141).trans rfl
theorem f_Mo_years_171 : fx n_Mo_years 171 = some (.goto 23, 174, [194]) := (congrArg (fun t => fxl t 171) e_141).trans rfl
theorem f_Mo_years_174 : fx n_Mo_years 174 = some (.iload_n 3, 175, []) := (congrArg (fun t => fxl t 174) e_141).trans rfl
theorem f_Mo_years_175 : fx n_Mo_years 175 = some (.iconst 1, 176, []) := (congrArg (fun t => fxl t 175) e_141).trans rfl
theorem f_Mo_years_176 : fx n_Mo_years 176 = some (.if_icmp .ne 14, 179, [190]) := (congrArg (fun t => fxl t 176) e_141).trans rfl
theorem f_Mo_years_179 : fx n_Mo_years 179 = some (.aload_n 0, 180, []) := (congrArg (fun t => fxl t 179) e_141).trans rfl
theorem f_Mo_years_180 : fx n_Mo_years 180 = some (.aload_n 0, 181, []) := (congrArg (fun t => fxl t 180) e_141).trans rfl
theorem f_Mo_years_181 : fx n_Mo_years 181 = some (.getfield 31, 184, [7, 14]) := (congrArg (fun t => fxl t 181) e_141).trans rfl
theorem f_Mo_years_184 : fx n_Mo_years 184 = some (.invokevirtual 198, 187, [104, 1]) := (congrArg (fun t => fxl t 184) e_141).trans rfl
theorem f_Mo_years_187 : fx n_Mo_years 187 = some (.goto 7, 190, [194]) := (congrArg (fun t => fxl t 187) e_141).trans rfl
theorem f_Mo_years_190 : fx n_Mo_years 190 = some (.aload_n 0, 191, []) := (congrArg (fun t => fxl t 190) e_141).trans rfl
theorem f_Mo_years_191 : fx n_Mo_years 191 = some (.getfield 244, 194, [7, 21]) := (congrArg (fun t => fxl t 191) e_141).trans rfl
theorem f_Mo_years_194 : fx n_Mo_years 194 = some (.ireturn, 195, []) := (congrArg (fun t => fxl t 194) e_141).trans rfl
theorem f_Mo_image_0 : fx n_Mo_image 0 = some (.aload_n 0, 1, []) := (congrArg (fun t => fxl t 0) e_142).trans rfl
theorem f_Mo_image_1 : fx n_Mo_image 1 = some (.invokevirtual 169, 4, [96, 0]) := (congrArg (fun t => fxl t 1) e_142).trans rfl
theorem f_Mo_image_4 : fx n_Mo_image 4 = some (.ifCond .eq 6, 7, [10]) := (congrArg (fun t => fxl t 4) e_142).trans rfl
theorem f_Mo_image_7 : fx n_Mo_image 7 = some (.bipush (-103), 9, []) := (congrArg (fun t => fxl t 7) e_142).trans rfl
theorem f_Mo_image_9 : fx n_Mo_image 9 = some (.ireturn, 10, []) := (congrArg (fun t => fxl t 9) e_142).trans rfl
theorem f_Mo_image_10 : fx n_Mo_image 10 = some (.aload_n 0, 11, []) := (congrArg (fun t => fxl t 10) e_142).trans rfl
theorem f_Mo_image_11 : fx n_Mo_image 11 = some (.getfield 13, 14, [7, 8]) := (congrArg (fun t => fxl t 11) e_142).trans rfl
theorem f_Mo_image_14 : fx n_Mo_image 14 = some (.aload_n 0, 15, []) := (congrArg (fun t => fxl t 14) e_142).trans rfl
theorem f_Mo_image_15 : fx n_Mo_image 15 = some (.getfield 52, 18, [7, 27]) := (congrArg (fun t => fxl t 15) e_142).trans rfl
theorem f_Mo_image_18 : fx n_Mo_image 18 = some (.invokestatic 133, 21, [86, 2]) := (congrArg (fun t => fxl t 18) e_142).trans rfl
theorem f_Mo_image_21 : fx n_Mo_image 21 = some (.aload_n 0, 22, []) := (congrArg (fun t => fxl t 21) e_142).trans rfl
theorem f_Mo_image_22 : fx n_Mo_image 22 = some (.getfield 16, 25, [7, 9]) := (congrArg (fun t => fxl t 22) e_142).trans rfl
theorem f_Mo_image_25 : fx n_Mo_image 25 = some (.aload_n 0, 26, []) := (congrArg (fun t => fxl t 25) e_142).trans rfl
theorem f_Mo_image_26 : fx n_Mo_image 26 = some (.getfield 55, 29, [7, 28]) := (congrArg (fun t => fxl t 26) e_142).trans rfl
theorem f_Mo_image_29 : fx n_Mo_image 29 = some (.invokestatic 133, 32, [86, 2]) := (congrArg (fun t => fxl t 29) e_142).trans rfl
theorem f_Mo_image_32 : fx n_Mo_image 32 = some (.aload_n 0, 33, []) := (congrArg (fun t => fxl t 32) e_142).trans rfl
theorem f_Mo_image_33 : fx n_Mo_image 33 = some (.getfield 19, 36, [7, 10]) := (congrArg (fun t => fxl t 33) e_142).trans rfl
theorem f_Mo_image_36 : fx n_Mo_image 36 = some (.aload_n 0, 37, []) := (congrArg (fun t => fxl t 36) e_142).trans rfl
theorem f_Mo_image_37 : fx n_Mo_image 37 = some (.getfield 58, 40, [7, 29]) := (congrArg (fun t => fxl t 37) e_142).trans rfl
theorem f_Mo_image_40 : fx n_Mo_image 40 = some (.invokestatic 133, 43, [86, 2]) := (congrArg (fun t => fxl t 40) e_142).trans rfl
theorem f_Mo_image_43 : fx n_Mo_image 43 = some (.aload_n 0, 44, []) := (congrArg (fun t => fxl t 43) e_142).trans rfl
theorem f_Mo_image_44 : fx n_Mo_image 44 = some (.getfield 25, 47, [7, 12]) := (congrArg (fun t => fxl t 44) e_142).trans rfl
theorem f_Mo_image_47 : fx n_Mo_image 47 = some (.aload_n 0, 48, []) := (congrArg (fun t => fxl t 47) e_142).trans rfl
theorem f_Mo_image_48 : fx n_Mo_image 48 = some (.getfield 61, 51, [7, 30]) := (congrArg (fun t => fxl t 48) e_142).trans rfl
theorem f_Mo_image_51 : fx n_Mo_image 51 = some (.invokestatic 133, 54, [86, 2]) := (congrArg (fun t => fxl t 51) e_142).trans rfl
theorem f_Mo_image_54 : fx n_Mo_image 54 = some (.aload_n 0, 55, []) := (congrArg (fun t => fxl t 54) e_142).trans rfl
theorem f_Mo_image_55 : fx n_Mo_image 55 = some (.getfield 46, 58, [7, 20]) := (congrArg (fun t => fxl t 55) e_142).trans rfl
theorem f_Mo_image_58 : fx n_Mo_image 58 = some (.aload_n 0, 59, []) := (congrArg (fun t => fxl t 58) e_142).trans rfl
theorem f_Mo_image_59 : fx n_Mo_image 59 = some (.getfield 64, 62, [7, 31]) := (congrArg (fun t => fxl t 59) e_142).trans rfl
theorem f_Mo_image_62 : fx n_Mo_image 62 = some (.invokestatic 133, 65, [86, 2]) := (congrArg (fun t => fxl t 62) e_142).trans rfl
theorem f_Mo_image_65 : fx n_Mo_image 65 = some (.aload_n 0, 66, []) := (congrArg (fun t => fxl t 65) e_142).trans rfl
theorem f_Mo_image_66 : fx n_Mo_image 66 = some (.aload_n 0, 67, []) := (congrArg (fun t => fxl t 66) e_142).trans rfl
theorem f_Mo_image_67 : fx n_Mo_image 67 = some (.getfield 110, 70, [7, 5]) := (congrArg (fun t => fxl t 67) e_142).trans rfl
theorem f_Mo_image_70 : fx n_Mo_image 70 = some (.putfield 259, 73, [7, 24]) := (congrArg (fun t => fxl t 70) e_142).trans rfl
theorem f_Mo_image_73 : fx n_Mo_image 73 = some (.aload_n 0, 74, []) := (congrArg (fun t => fxl t 73) e_142).trans rfl
theorem f_Mo_image_74 : fx n_Mo_image 74 = some (.aload_n 0, 75, []) := (congrArg (fun t => fxl t 74) e_142).trans rfl
theorem f_Mo_image_75 : fx n_Mo_image 75 = some (.getfield 113, 78, [7, 6]) := (congrArg (fun t => fxl t 75) e_142).trans rfl
theorem f_Mo_image_78 : fx n_Mo_image 78 = some (.putfield 262, 81, [7, 25]) := (congrArg (fun t => fxl t 78) e_142).trans rfl
theorem f_Mo_image_81 : fx n_Mo_image 81 = some (.aload_n 0, 82, []) := (congrArg (fun t => fxl t 81) e_142).trans rfl
theorem f_Mo_image_82 : fx n_Mo_image 82 = some (.aload_n 0, 83, []) := (congrArg (fun t => fxl t 82) e_142).trans rfl
theorem f_Mo_image_83 : fx n_Mo_image 83 = some (.getfield 116, 86, [7, 19]) := (congrArg (fun t => fxl t 83) e_142).trans rfl
theorem f_Mo_image_86 : fx n_Mo_image 86 = some (.putfield 265, 89, [7, 26]) := (congrArg (fun t => fxl t 86) e_142).trans rfl
theorem f_Mo_image_89 : fx n_Mo_image 89 = some (.aload_n 0, 90, []) := (congrArg (fun t => fxl t 89) e_142).trans rfl
theorem f_Mo_image_90 : fx n_Mo_image 90 = some (.aload_n 0, 91, []) := (congrArg (fun t => fxl t 90) e_142).trans rfl
theorem f_Mo_image_91 : fx n_Mo_image 91 = some (.getfield 119, 94, [7, 7]) := (congrArg (fun t => fxl t 91) e_142).trans rfl
theorem f_Mo_image_94 : fx n_Mo_image 94 = some (.putfield 67, 97, [7, 23]) := (congrArg (fun t => fxl t 94) e_142).trans rfl
theorem f_Mo_image_97 : fx n_Mo_image 97 = some (.aload_n 0, 98, []) := (congrArg (fun t => fxl t 97) e_142).trans rfl
theorem f_Mo_image_98 : fx n_Mo_image 98 = some (.getfield 110, 101, [7, 5]) := (congrArg (fun t => fxl t 98) e_142).trans rfl
theorem f_Mo_image_101 : fx n_Mo_image 101 = some (.ireturn, 102, []) := (congrArg (fun t => fxl t 101) e_142).trans rfl
theorem f_Mo_restore_0 : fx n_Mo_restore 0 = some (.aload_n 0, 1, []) := (congrArg (fun t => fxl t 0) e_143).trans rfl
theorem f_Mo_restore_1 : fx n_Mo_restore 1 = some (.getfield 67, 4, [7, 23]) := (congrArg (fun t => fxl t 1) e_143).trans rfl
theorem f_Mo_restore_4 : fx n_Mo_restore 4 = some (.aload_n 0, 5, []) := (congrArg (fun t => fxl t 4) e_143).trans rfl
theorem f_Mo_restore_5 : fx n_Mo_restore 5 = some (.getfield 119, 8, [7, 7]) := (congrArg (fun t => fxl t 5) e_143).trans rfl
theorem f_Mo_restore_8 : fx n_Mo_restore 8 = some (.if_icmp .eq 6, 11, [14]) := (congrArg (fun t => fxl t 8) e_143).trans rfl
theorem f_Mo_restore_11 : fx n_Mo_restore 11 = some (.bipush (-103), 13, []) := (congrArg (fun t => fxl t 11) e_143).trans rfl
theorem f_Mo_restore_13 : fx n_Mo_restore 13 = some (.ireturn, 14, []) := (congrArg (fun t => fxl t 13) e_143).trans rfl
theorem f_Mo_restore_14 : fx n_Mo_restore 14 = some (.aload_n 0, 15, []) := (congrArg (fun t => fxl t 14) e_143).trans rfl
theorem f_Mo_restore_15 : fx n_Mo_restore 15 = some (.getfield 52, 18, [7, 27]) := (congrArg (fun t => fxl t 15) e_143).trans rfl
theorem f_Mo_restore_18 : fx n_Mo_restore 18 = some (.aload_n 0, 19, []) := (congrArg (fun t => fxl t 18) e_143).trans rfl
theorem f_Mo_restore_19 : fx n_Mo_restore 19 = some (.getfield 13, 22, [7, 8]) := (congrArg (fun t => fxl t 19) e_143).trans rfl
theorem f_Mo_restore_22 : fx n_Mo_restore 22 = some (.invokestatic 133, 25, [86, 2]) := (congrArg (fun t => fxl t 22) e_143).trans rfl
theorem f_Mo_restore_25 : fx n_Mo_restore 25 = some (.aload_n 0, 26, []) := (congrArg (fun t => fxl t 25) e_143).trans rfl
theorem f_Mo_restore_26 : fx n_Mo_restore 26 = some (.getfield 55, 29, [7, 28]) := (congrArg (fun t => fxl t 26) e_143).trans rfl
theorem f_Mo_restore_29 : fx n_Mo_restore 29 = some (.aload_n 0, 30, []) := (congrArg (fun t => fxl t 29) e_143).trans rfl
theorem f_Mo_restore_30 : fx n_Mo_restore 30 = some (.getfield 16, 33, [7, 9]) := (congrArg (fun t => fxl t 30) e_143).trans rfl
theorem f_Mo_restore_33 : fx n_Mo_restore 33 = some (.invokestatic 133, 36, [86, 2]) := (congrArg (fun t => fxl t 33) e_143).trans rfl
theorem f_Mo_restore_36 : fx n_Mo_restore 36 = some (.aload_n 0, 37, []) := (congrArg (fun t => fxl t 36) e_143).trans rfl
theorem f_Mo_restore_37 : fx n_Mo_restore 37 = some (.getfield 58, 40, [7, 29]) := (congrArg (fun t => fxl t 37) e_143).trans rfl
theorem f_Mo_restore_40 : fx n_Mo_restore 40 = some (.aload_n 0, 41, []) := (congrArg (fun t => fxl t 40) e_143).trans rfl
theorem f_Mo_restore_41 : fx n_Mo_restore 41 = some (.getfield 19, 44, [7, 10]) := (congrArg (fun t => fxl t 41) e_143).trans rfl
theorem f_Mo_restore_44 : fx n_Mo_restore 44 = some (.invokestatic 133, 47, [86, 2]) := (congrArg (fun t => fxl t 44) e_143).trans rfl
theorem f_Mo_restore_47 : fx n_Mo_restore 47 = some (.aload_n 0, 48, []) := (congrArg (fun t => fxl t 47) e_143).trans rfl
theorem f_Mo_restore_48 : fx n_Mo_restore 48 = some (.getfield 61, 51, [7, 30]) := (congrArg (fun t => fxl t 48) e_143).trans rfl
theorem f_Mo_restore_51 : fx n_Mo_restore 51 = some (.aload_n 0, 52, []) := (congrArg (fun t => fxl t 51) e_143).trans rfl
theorem f_Mo_restore_52 : fx n_Mo_restore 52 = some (.getfield 25, 55, [7, 12]) := (congrArg (fun t => fxl t 52) e_143).trans rfl
theorem f_Mo_restore_55 : fx n_Mo_restore 55 = some (.invokestatic 133, 58, [86, 2]) := (congrArg (fun t => fxl t 55) e_143).trans rfl
theorem f_Mo_restore_58 : fx n_Mo_restore 58 = some (.aload_n 0, 59, []) := (congrArg (fun t => fxl t 58) e_143).trans rfl
theorem f_Mo_restore_59 : fx n_Mo_restore 59 = some (.getfield 64, 62, [7, 31]) := (congrArg (fun t => fxl t 59) e_143).trans rfl
theorem f_Mo_restore_62 : fx n_Mo_restore 62 = some (.aload_n 0, 63, []) := (congrArg (fun t => fxl t 62) e_143).trans rfl
theorem f_Mo_restore_63 : fx n_Mo_restore 63 = some (.getfield 46, 66, [7, 20]) := (congrArg (fun t => fxl t 63) e_143).trans rfl
theorem f_Mo_restore_66 : fx n_Mo_restore 66 = some (.invokestatic 133, 69, [86, 2]) := (congrArg (fun t => fxl t 66) e_143).trans rfl
theorem f_Mo_restore_69 : fx n_Mo_restore 69 = some (.aload_n 0, 70, []) := (congrArg (fun t => fxl t 69) e_143).trans rfl
theorem f_Mo_restore_70 : fx n_Mo_restore 70 = some (.aload_n 0, 71, []) := (congrArg (fun t => fxl t 70) e_143).trans rfl
theorem f_Mo_restore_71 : fx n_Mo_restore 71 = some (.getfield 259, 74, [7, 24]) := (congrArg (fun t => fxl t 71) e_143).trans rfl
theorem f_Mo_restore_74 : fx n_Mo_restore 74 = some (.putfield 110, 77, [7, 5]) := (congrArg (fun t => fxl t 74) e_143).trans rfl
theorem f_Mo_restore_77 : fx n_Mo_restore 77 = some (.aload_n 0, 78, []) := (congrArg (fun t => fxl t 77) e_143).trans rfl
theorem f_Mo_restore_78 : fx n_Mo_restore 78 = some (.aload_n 0, 79, []) := (congrArg (fun t => fxl t 78) e_143).trans rfl
theorem f_Mo_restore_79 : fx n_Mo_restore 79 = some (.getfield 262, 82, [7, 25]) := (congrArg (fun t => fxl t 79) e_143).trans rfl
theorem f_Mo_restore_82 : fx n_Mo_restore 82 = some (.putfield 113, 85, [7, 6]) := (congrArg (fun t => fxl t 82) e_143).trans rfl
theorem f_Mo_restore_85 : fx n_Mo_restore 85 = some (.aload_n 0, 86, []) := (congrArg (fun t => fxl t 85) e_143).trans rfl
theorem f_Mo_restore_86 : fx n_Mo_restore 86 = some (.aload_n 0, 87, []) := (congrArg (fun t => fxl t 86) e_143).trans rfl
theorem f_Mo_restore_87 : fx n_Mo_restore 87 = some (.getfield 265, 90, [7, 26]) := (congrArg (fun t => fxl t 87) e_143).trans rfl
theorem f_Mo_restore_90 : fx n_Mo_restore 90 = some (.putfield 116, 93, [7, 19]) := (congrArg (fun t => fxl t 90) e_143).trans rfl
theorem f_Mo_restore_93 : fx n_Mo_restore 93 = some (.aload_n 0, 94, []) := (congrArg (fun t => fxl t 93) e_143).trans rfl
theorem f_Mo_restore_94 : fx n_Mo_restore 94 = some (.getfield 110, 97, [7, 5]) := (congrArg (fun t => fxl t 94) e_143).trans rfl
theorem f_Mo_restore_97 : fx n_Mo_restore 97 = some (.ireturn, 98, []) := (congrArg (fun t => fxl t 97) e_143).trans rfl
theorem f_Mo_toSea_0 : fx n_Mo_toSea 0 = some (.aload_n 0, 1, []) := (congrArg (fun t => fxl t 0) e_144).trans rfl
theorem f_Mo_toSea_1 : fx n_Mo_toSea 1 = some (.invokevirtual 126, 4, [100, 0]) := (congrArg (fun t => fxl t 1) e_144).trans rfl
theorem f_Mo_toSea_4 : fx n_Mo_toSea 4 = some (.iconst 0, 5, []) := (congrArg (fun t => fxl t 4) e_144).trans rfl
theorem f_Mo_toSea_5 : fx n_Mo_toSea 5 = some (.istore_n 1, 6, []) := (congrArg (fun t => fxl t 5) e_144).trans rfl
theorem f_Mo_toSea_6 : fx n_Mo_toSea 6 = some (.iconst 0, 7, []) := (congrArg (fun t => fxl t 6) e_144).trans rfl
theorem f_Mo_toSea_7 : fx n_Mo_toSea 7 = some (.istore_n 2, 8, []) := (congrArg (fun t => fxl t 7) e_144).trans rfl
theorem f_Mo_toSea_8 : fx n_Mo_toSea 8 = some (.iload_n 2, 9, []) := (congrArg (fun t => fxl t 8) e_144).trans rfl
theorem f_Mo_toSea_9 : fx n_Mo_toSea 9 = some (.aload_n 0, 10, []) := (congrArg (fun t => fxl t 9) e_144).trans rfl
theorem f_Mo_toSea_10 : fx n_Mo_toSea 10 = some (.getfield 104, 13, [7, 3]) := (congrArg (fun t => fxl t 10) e_144).trans rfl
theorem f_Mo_toSea_13 : fx n_Mo_toSea 13 = some (.if_icmp .ge 41, 16, [54]) := (congrArg (fun t => fxl t 13) e_144).trans rfl
theorem f_Mo_toSea_16 : fx n_Mo_toSea 16 = some (.iload_n 1, 17, []) := (congrArg (fun t => fxl t 16) e_144).trans rfl
theorem f_Mo_toSea_17 : fx n_Mo_toSea 17 = some (.aload_n 0, 18, []) := (congrArg (fun t => fxl t 17) e_144).trans rfl
theorem f_Mo_toSea_18 : fx n_Mo_toSea 18 = some (.getfield 22, 21, [7, 11]) := (congrArg (fun t => fxl t 18) e_144).trans rfl
theorem f_Mo_toSea_21 : fx n_Mo_toSea 21 = some (.iload_n 2, 22, []) := (congrArg (fun t => fxl t 21) e_144).trans rfl
theorem f_Mo_toSea_22 : fx n_Mo_toSea 22 = some (.iaload, 23, []) := (congrArg (fun t => fxl t 22) e_144).trans rfl
theorem f_Mo_toSea_23 : fx n_Mo_toSea 23 = some (.iconst (-1), 24, []) := (congrArg (fun t => fxl t 23) e_144).trans rfl
theorem f_Mo_toSea_24 : fx n_Mo_toSea 24 = some (.if_icmp .ne 21, 27, [45]) := (congrArg (fun t => fxl t 24) e_144).trans rfl
theorem f_Mo_toSea_27 : fx n_Mo_toSea 27 = some (.aload_n 0, 28, []) := (congrArg (fun t => fxl t 27) e_144).trans rfl
theorem f_Mo_toSea_28 : fx n_Mo_toSea 28 = some (.getfield 13, 31, [7, 8]) := (congrArg (fun t => fxl t 28) e_144).trans rfl
theorem f_Mo_toSea_31 : fx n_Mo_toSea 31 = some (.iload_n 2, 32, []) := (congrArg (fun t => fxl t 31) e_144).trans rfl
theorem f_Mo_toSea_32 : fx n_Mo_toSea 32 = some (.iaload, 33, []) := (congrArg (fun t => fxl t 32) e_144).trans rfl
theorem f_Mo_toSea_33 : fx n_Mo_toSea 33 = some (.aload_n 0, 34, []) := (congrArg (fun t => fxl t 33) e_144).trans rfl
theorem f_Mo_toSea_34 : fx n_Mo_toSea 34 = some (.getfield 28, 37, [7, 13]) := (congrArg (fun t => fxl t 34) e_144).trans rfl
theorem f_Mo_toSea_37 : fx n_Mo_toSea 37 = some (.iload_n 2, 38, []) := (congrArg (fun t => fxl t 37) e_144).trans rfl
theorem f_Mo_toSea_38 : fx n_Mo_toSea 38 = some (.iaload, 39, []) := (congrArg (fun t => fxl t 38) e_144).trans rfl
theorem f_Mo_toSea_39 : fx n_Mo_toSea 39 = some (.invokestatic 122, 42, [99, 2]) := (congrArg (fun t => fxl t 39) e_144).trans rfl
theorem f_Mo_toSea_42 : fx n_Mo_toSea 42 = some (.goto 4, 45, [46]) := (congrArg (fun t => fxl t 42) e_144).trans rfl
theorem f_Mo_toSea_45 : fx n_Mo_toSea 45 = some (.iconst 0, 46, []) := (congrArg (fun t => fxl t 45) e_144).trans rfl
theorem f_Mo_toSea_46 : fx n_Mo_toSea 46 = some (.iadd, 47, []) := (congrArg (fun t => fxl t 46) e_144).trans rfl
theorem f_Mo_toSea_47 : fx n_Mo_toSea 47 = some (.istore_n 1, 48, []) := (congrArg (fun t => fxl t 47) e_144).trans rfl
theorem f_Mo_toSea_48 : fx n_Mo_toSea 48 = some (.iinc 2 1, 51, []) := (congrArg (fun t => fxl t 48) e_144).trans rfl
theorem f_Mo_toSea_51 : fx n_Mo_toSea 51 = some (.goto (-43), 54, [8]) := (congrArg (fun t => fxl t 51) e_144).trans rfl
theorem f_Mo_toSea_54 : fx n_Mo_toSea 54 = some (.iload_n 1, 55, []) := (congrArg (fun t => fxl t 54) e_144).trans rfl
theorem f_Mo_toSea_55 : fx n_Mo_toSea 55 = some (.ireturn, 56, []) := (congrArg (fun t => fxl t 55) e_144).trans rfl
theorem f_Mo_countOf_0 : fx n_Mo_countOf 0 = some (.iload_n 1, 1, []) := (congrArg (fun t => fxl t 0) e_145).trans rfl
theorem f_Mo_countOf_1 : fx n_Mo_countOf 1 = some (.tableswitch 126 0 10 #[59, 64, 69, 78, 87, 96, 101, 106, 111, 116, 121], 60, [127, 60, 65, 70, 79, 88, 97, 102, 107, 112, 117, 122]) := (congrArg (fun t => fxl t 1) e_145).trans rfl
theorem f_Mo_countOf_60 : fx n_Mo_countOf 60 = some (.aload_n 0, 61, []) := (congrArg (fun t => fxl t 60) e_145).trans rfl
theorem f_Mo_countOf_61 : fx n_Mo_countOf 61 = some (.getfield 104, 64, [7, 3]) := (congrArg (fun t => fxl t 61) e_145).trans rfl
theorem f_Mo_countOf_64 : fx n_Mo_countOf 64 = some (.ireturn, 65, []) := (congrArg (fun t => fxl t 64) e_145).trans rfl
theorem f_Mo_countOf_65 : fx n_Mo_countOf 65 = some (.aload_n 0, 66, []) := (congrArg (fun t => fxl t 65) e_145).trans rfl
theorem f_Mo_countOf_66 : fx n_Mo_countOf 66 = some (.getfield 107, 69, [7, 4]) := (congrArg (fun t => fxl t 66) e_145).trans rfl
theorem f_Mo_countOf_69 : fx n_Mo_countOf 69 = some (.ireturn, 70, []) := (congrArg (fun t => fxl t 69) e_145).trans rfl
theorem f_Mo_countOf_70 : fx n_Mo_countOf 70 = some (.aload_n 0, 71, []) := (congrArg (fun t => fxl t 70) e_145).trans rfl
theorem f_Mo_countOf_71 : fx n_Mo_countOf 71 = some (.aload_n 0, 72, []) := (congrArg (fun t => fxl t 71) e_145).trans rfl
theorem f_Mo_countOf_72 : fx n_Mo_countOf 72 = some (.getfield 16, 75, [7, 9]) := (congrArg (fun t => fxl t 72) e_145).trans rfl
theorem f_Mo_countOf_75 : fx n_Mo_countOf 75 = some (.invokevirtual 198, 78, [104, 1]) := (congrArg (fun t => fxl t 75) e_145).trans rfl
theorem f_Mo_countOf_78 : fx n_Mo_countOf 78 = some (.ireturn, 79, []) := (congrArg (fun t => fxl t 78) e_145).trans rfl
theorem f_Mo_countOf_79 : fx n_Mo_countOf 79 = some (.aload_n 0, 80, []) := (congrArg (fun t => fxl t 79) e_145).trans rfl
theorem f_Mo_countOf_80 : fx n_Mo_countOf 80 = some (.aload_n 0, 81, []) := (congrArg (fun t => fxl t 80) e_145).trans rfl
theorem f_Mo_countOf_81 : fx n_Mo_countOf 81 = some (.getfield 19, 84, [7, 10]) := (congrArg (fun t => fxl t 81) e_145).trans rfl
theorem f_Mo_countOf_84 : fx n_Mo_countOf 84 = some (.invokevirtual 198, 87, [104, 1]) := (congrArg (fun t => fxl t 84) e_145).trans rfl
theorem f_Mo_countOf_87 : fx n_Mo_countOf 87 = some (.ireturn, 88, []) := (congrArg (fun t => fxl t 87) e_145).trans rfl
theorem f_Mo_countOf_88 : fx n_Mo_countOf 88 = some (.aload_n 0, 89, []) := (congrArg (fun t => fxl t 88) e_145).trans rfl
theorem f_Mo_countOf_89 : fx n_Mo_countOf 89 = some (.aload_n 0, 90, []) := (congrArg (fun t => fxl t 89) e_145).trans rfl
theorem f_Mo_countOf_90 : fx n_Mo_countOf 90 = some (.getfield 19, 93, [7, 10]) := (congrArg (fun t => fxl t 90) e_145).trans rfl
theorem f_Mo_countOf_93 : fx n_Mo_countOf 93 = some (.invokevirtual 194, 96, [103, 1]) := (congrArg (fun t => fxl t 93) e_145).trans rfl
theorem f_Mo_countOf_96 : fx n_Mo_countOf 96 = some (.ireturn, 97, []) := (congrArg (fun t => fxl t 96) e_145).trans rfl
theorem f_Mo_countOf_97 : fx n_Mo_countOf 97 = some (.aload_n 0, 98, []) := (congrArg (fun t => fxl t 97) e_145).trans rfl
theorem f_Mo_countOf_98 : fx n_Mo_countOf 98 = some (.invokevirtual 268, 101, [144, 0]) := (congrArg (fun t => fxl t 98) e_145).trans rfl
theorem f_Mo_countOf_101 : fx n_Mo_countOf 101 = some (.ireturn, 102, []) := (congrArg (fun t => fxl t 101) e_145).trans rfl
theorem f_Mo_countOf_102 : fx n_Mo_countOf 102 = some (.aload_n 0, 103, []) := (congrArg (fun t => fxl t 102) e_145).trans rfl
theorem f_Mo_countOf_103 : fx n_Mo_countOf 103 = some (.getfield 110, 106, [7, 5]) := (congrArg (fun t => fxl t 103) e_145).trans rfl
theorem f_Mo_countOf_106 : fx n_Mo_countOf 106 = some (.ireturn, 107, []) := (congrArg (fun t => fxl t 106) e_145).trans rfl
theorem f_Mo_countOf_107 : fx n_Mo_countOf 107 = some (.aload_n 0, 108, []) := (congrArg (fun t => fxl t 107) e_145).trans rfl
theorem f_Mo_countOf_108 : fx n_Mo_countOf 108 = some (.getfield 113, 111, [7, 6]) := (congrArg (fun t => fxl t 108) e_145).trans rfl
theorem f_Mo_countOf_111 : fx n_Mo_countOf 111 = some (.ireturn, 112, []) := (congrArg (fun t => fxl t 111) e_145).trans rfl
theorem f_Mo_countOf_112 : fx n_Mo_countOf 112 = some (.aload_n 0, 113, []) := (congrArg (fun t => fxl t 112) e_145).trans rfl
theorem f_Mo_countOf_113 : fx n_Mo_countOf 113 = some (.getfield 116, 116, [7, 19]) := (congrArg (fun t => fxl t 113) e_145).trans rfl
theorem f_Mo_countOf_116 : fx n_Mo_countOf 116 = some (.ireturn, 117, []) := (congrArg (fun t => fxl t 116) e_145).trans rfl
theorem f_Mo_countOf_117 : fx n_Mo_countOf 117 = some (.aload_n 0, 118, []) := (congrArg (fun t => fxl t 117) e_145).trans rfl
theorem f_Mo_countOf_118 : fx n_Mo_countOf 118 = some (.getfield 77, 121, [7, 1]) := (congrArg (fun t => fxl t 118) e_145).trans rfl
theorem f_Mo_countOf_121 : fx n_Mo_countOf 121 = some (.ireturn, 122, []) := (congrArg (fun t => fxl t 121) e_145).trans rfl
theorem f_Mo_countOf_122 : fx n_Mo_countOf 122 = some (.aload_n 0, 123, []) := (congrArg (fun t => fxl t 122) e_145).trans rfl
theorem f_Mo_countOf_123 : fx n_Mo_countOf 123 = some (.getfield 119, 126, [7, 7]) := (congrArg (fun t => fxl t 123) e_145).trans rfl
theorem f_Mo_countOf_126 : fx n_Mo_countOf 126 = some (.ireturn, 127, []) := (congrArg (fun t => fxl t 126) e_145).trans rfl
theorem f_Mo_countOf_127 : fx n_Mo_countOf 127 = some (.bipush (-102), 129, []) := (congrArg (fun t => fxl t 127) e_145).trans rfl
theorem f_Mo_countOf_129 : fx n_Mo_countOf 129 = some (.ireturn, 130, []) := (congrArg (fun t => fxl t 129) e_145).trans rfl
theorem f_Mo_count_0 : fx n_Mo_count 0 = some (.aload_n 0, 1, []) := (congrArg (fun t => fxl t 0) e_146).trans rfl
theorem f_Mo_count_1 : fx n_Mo_count 1 = some (.iload_n 1, 2, []) := (congrArg (fun t => fxl t 1) e_146).trans rfl
theorem f_Mo_count_2 : fx n_Mo_count 2 = some (.invokevirtual 271, 5, [145, 1]) := (congrArg (fun t => fxl t 2) e_146).trans rfl
theorem f_Mo_count_5 : fx n_Mo_count 5 = some (.ireturn, 6, []) := (congrArg (fun t => fxl t 5) e_146).trans rfl
theorem f_Mo_say_0 : fx n_Mo_say 0 = some (.aload_n 0, 1, []) := (congrArg (fun t => fxl t 0) e_147).trans rfl
theorem f_Mo_say_1 : fx n_Mo_say 1 = some (.ldc2_w 274, 4, []) := (congrArg (fun t => fxl t 1) e_147).trans rfl
theorem f_Mo_say_4 : fx n_Mo_say 4 = some (.aload_n 0, 5, []) := (congrArg (fun t => fxl t 4) e_147).trans rfl
theorem f_Mo_say_5 : fx n_Mo_say 5 = some (.getfield 276, 8, [7, 32]) := (congrArg (fun t => fxl t 5) e_147).trans rfl
theorem f_Mo_say_8 : fx n_Mo_say 8 = some (.lmul, 9, []) := (congrArg (fun t => fxl t 8) e_147).trans rfl
theorem f_Mo_say_9 : fx n_Mo_say 9 = some (.lload_n 1, 10, []) := (congrArg (fun t => fxl t 9) e_147).trans rfl
theorem f_Mo_say_10 : fx n_Mo_say 10 = some (.ladd, 11, []) := (congrArg (fun t => fxl t 10) e_147).trans rfl
theorem f_Mo_say_11 : fx n_Mo_say 11 = some (.putfield 276, 14, [7, 32]) := (congrArg (fun t => fxl t 11) e_147).trans rfl
theorem f_Mo_say_14 : fx n_Mo_say 14 = some (.return_, 15, []) := (congrArg (fun t => fxl t 14) e_147).trans rfl
theorem f_Mo_sayGoverness_0 : fx n_Mo_sayGoverness 0 = some (.aload_n 0, 1, []) := (congrArg (fun t => fxl t 0) e_148).trans rfl
theorem f_Mo_sayGoverness_1 : fx n_Mo_sayGoverness 1 = some (.aload_n 0, 2, []) := (congrArg (fun t => fxl t 1) e_148).trans rfl
theorem f_Mo_sayGoverness_2 : fx n_Mo_sayGoverness 2 = some (.getfield 25, 5, [7, 12]) := (congrArg (fun t => fxl t 2) e_148).trans rfl
theorem f_Mo_sayGoverness_5 : fx n_Mo_sayGoverness 5 = some (.iload_n 1, 6, []) := (congrArg (fun t => fxl t 5) e_148).trans rfl
theorem f_Mo_sayGoverness_6 : fx n_Mo_sayGoverness 6 = some (.iaload, 7, []) := (congrArg (fun t => fxl t 6) e_148).trans rfl
theorem f_Mo_sayGoverness_7 : fx n_Mo_sayGoverness 7 = some (.i2l, 8, []) := (congrArg (fun t => fxl t 7) e_148).trans rfl
theorem f_Mo_sayGoverness_8 : fx n_Mo_sayGoverness 8 = some (.invokevirtual 280, 11, [147, 1]) := (congrArg (fun t => fxl t 8) e_148).trans rfl
theorem f_Mo_sayGoverness_11 : fx n_Mo_sayGoverness 11 = some (.aload_n 0, 12, []) := (congrArg (fun t => fxl t 11) e_148).trans rfl
theorem f_Mo_sayGoverness_12 : fx n_Mo_sayGoverness 12 = some (.aload_n 0, 13, []) := (congrArg (fun t => fxl t 12) e_148).trans rfl
theorem f_Mo_sayGoverness_13 : fx n_Mo_sayGoverness 13 = some (.iload_n 1, 14, []) := (congrArg (fun t => fxl t 13) e_148).trans rfl
theorem f_Mo_sayGoverness_14 : fx n_Mo_sayGoverness 14 = some (.iconst 2, 15, []) := (congrArg (fun t => fxl t 14) e_148).trans rfl
theorem f_Mo_sayGoverness_15 : fx n_Mo_sayGoverness 15 = some (.iconst 0, 16, []) := (congrArg (fun t => fxl t 15) e_148).trans rfl
theorem f_Mo_sayGoverness_16 : fx n_Mo_sayGoverness 16 = some (.invokevirtual 205, 19, [123, 3]) := (congrArg (fun t => fxl t 16) e_148).trans rfl
theorem f_Mo_sayGoverness_19 : fx n_Mo_sayGoverness 19 = some (.i2l, 20, []) := (congrArg (fun t => fxl t 19) e_148).trans rfl
theorem f_Mo_sayGoverness_20 : fx n_Mo_sayGoverness 20 = some (.invokevirtual 280, 23, [147, 1]) := (congrArg (fun t => fxl t 20) e_148).trans rfl
theorem f_Mo_sayGoverness_23 : fx n_Mo_sayGoverness 23 = some (.aload_n 0, 24, []) := (congrArg (fun t => fxl t 23) e_148).trans rfl
theorem f_Mo_sayGoverness_24 : fx n_Mo_sayGoverness 24 = some (.aload_n 0, 25, []) := (congrArg (fun t => fxl t 24) e_148).trans rfl
theorem f_Mo_sayGoverness_25 : fx n_Mo_sayGoverness 25 = some (.iload_n 1, 26, []) := (congrArg (fun t => fxl t 25) e_148).trans rfl
theorem f_Mo_sayGoverness_26 : fx n_Mo_sayGoverness 26 = some (.iconst 2, 27, []) := (congrArg (fun t => fxl t 26) e_148).trans rfl
theorem f_Mo_sayGoverness_27 : fx n_Mo_sayGoverness 27 = some (.iconst 1, 28, []) := (congrArg (fun t => fxl t 27) e_148).trans rfl
theorem f_Mo_sayGoverness_28 : fx n_Mo_sayGoverness 28 = some (.invokevirtual 205, 31, [123, 3]) := (congrArg (fun t => fxl t 28) e_148).trans rfl
theorem f_Mo_sayGoverness_31 : fx n_Mo_sayGoverness 31 = some (.i2l, 32, []) := (congrArg (fun t => fxl t 31) e_148).trans rfl
theorem f_Mo_sayGoverness_32 : fx n_Mo_sayGoverness 32 = some (.invokevirtual 280, 35, [147, 1]) := (congrArg (fun t => fxl t 32) e_148).trans rfl
theorem f_Mo_sayGoverness_35 : fx n_Mo_sayGoverness 35 = some (.aload_n 0, 36, []) := (congrArg (fun t => fxl t 35) e_148).trans rfl
theorem f_Mo_sayGoverness_36 : fx n_Mo_sayGoverness 36 = some (.aload_n 0, 37, []) := (congrArg (fun t => fxl t 36) e_148).trans rfl
theorem f_Mo_sayGoverness_37 : fx n_Mo_sayGoverness 37 = some (.iload_n 1, 38, []) := (congrArg (fun t => fxl t 37) e_148).trans rfl
theorem f_Mo_sayGoverness_38 : fx n_Mo_sayGoverness 38 = some (.iconst 2, 39, []) := (congrArg (fun t => fxl t 38) e_148).trans rfl
theorem f_Mo_sayGoverness_39 : fx n_Mo_sayGoverness 39 = some (.bipush 10, 41, []) := (congrArg (fun t => fxl t 39) e_148).trans rfl
theorem f_Mo_sayGoverness_41 : fx n_Mo_sayGoverness 41 = some (.invokevirtual 205, 44, [123, 3]) := (congrArg (fun t => fxl t 41) e_148).trans rfl
theorem f_Mo_sayGoverness_44 : fx n_Mo_sayGoverness 44 = some (.i2l, 45, []) := (congrArg (fun t => fxl t 44) e_148).trans rfl
theorem f_Mo_sayGoverness_45 : fx n_Mo_sayGoverness 45 = some (.invokevirtual 280, 48, [147, 1]) := (congrArg (fun t => fxl t 45) e_148).trans rfl
theorem f_Mo_sayGoverness_48 : fx n_Mo_sayGoverness 48 = some (.aload_n 0, 49, []) := (congrArg (fun t => fxl t 48) e_148).trans rfl
theorem f_Mo_sayGoverness_49 : fx n_Mo_sayGoverness 49 = some (.aload_n 0, 50, []) := (congrArg (fun t => fxl t 49) e_148).trans rfl
theorem f_Mo_sayGoverness_50 : fx n_Mo_sayGoverness 50 = some (.iload_n 1, 51, []) := (congrArg (fun t => fxl t 50) e_148).trans rfl
theorem f_Mo_sayGoverness_51 : fx n_Mo_sayGoverness 51 = some (.iconst 2, 52, []) := (congrArg (fun t => fxl t 51) e_148).trans rfl
theorem f_Mo_sayGoverness_52 : fx n_Mo_sayGoverness 52 = some (.bipush 11, 54, []) := (congrArg (fun t => fxl t 52) e_148).trans rfl
theorem f_Mo_sayGoverness_54 : fx n_Mo_sayGoverness 54 = some (.invokevirtual 205, 57, [123, 3]) := (congrArg (fun t => fxl t 54) e_148).trans rfl
theorem f_Mo_sayGoverness_57 : fx n_Mo_sayGoverness 57 = some (.i2l, 58, []) := (congrArg (fun t => fxl t 57) e_148).trans rfl
theorem f_Mo_sayGoverness_58 : fx n_Mo_sayGoverness 58 = some (.invokevirtual 280, 61, [147, 1]) := (congrArg (fun t => fxl t 58) e_148).trans rfl
theorem f_Mo_sayGoverness_61 : fx n_Mo_sayGoverness 61 = some (.return_, 62, []) := (congrArg (fun t => fxl t 61) e_148).trans rfl
theorem f_Mo_sayRiver_0 : fx n_Mo_sayRiver 0 = some (.aload_n 0, 1, []) := (congrArg (fun t => fxl t 0) e_149).trans rfl
theorem f_Mo_sayRiver_1 : fx n_Mo_sayRiver 1 = some (.aload_n 0, 2, []) := (congrArg (fun t => fxl t 1) e_149).trans rfl
theorem f_Mo_sayRiver_2 : fx n_Mo_sayRiver 2 = some (.iconst 0, 3, []) := (congrArg (fun t => fxl t 2) e_149).trans rfl
theorem f_Mo_sayRiver_3 : fx n_Mo_sayRiver 3 = some (.invokevirtual 216, 6, [126, 1]) := (congrArg (fun t => fxl t 3) e_149).trans rfl
theorem f_Mo_sayRiver_6 : fx n_Mo_sayRiver 6 = some (.i2l, 7, []) := (congrArg (fun t => fxl t 6) e_149).trans rfl
theorem f_Mo_sayRiver_7 : fx n_Mo_sayRiver 7 = some (.invokevirtual 280, 10, [147, 1]) := (congrArg (fun t => fxl t 7) e_149).trans rfl
theorem f_Mo_sayRiver_10 : fx n_Mo_sayRiver 10 = some (.aload_n 0, 11, []) := (congrArg (fun t => fxl t 10) e_149).trans rfl
theorem f_Mo_sayRiver_11 : fx n_Mo_sayRiver 11 = some (.aload_n 0, 12, []) := (congrArg (fun t => fxl t 11) e_149).trans rfl
theorem f_Mo_sayRiver_12 : fx n_Mo_sayRiver 12 = some (.iconst 1, 13, []) := (congrArg (fun t => fxl t 12) e_149).trans rfl
theorem f_Mo_sayRiver_13 : fx n_Mo_sayRiver 13 = some (.invokevirtual 216, 16, [126, 1]) := (congrArg (fun t => fxl t 13) e_149).trans rfl
theorem f_Mo_sayRiver_16 : fx n_Mo_sayRiver 16 = some (.i2l, 17, []) := (congrArg (fun t => fxl t 16) e_149).trans rfl
theorem f_Mo_sayRiver_17 : fx n_Mo_sayRiver 17 = some (.invokevirtual 280, 20, [147, 1]) := (congrArg (fun t => fxl t 17) e_149).trans rfl
theorem f_Mo_sayRiver_20 : fx n_Mo_sayRiver 20 = some (.aload_n 0, 21, []) := (congrArg (fun t => fxl t 20) e_149).trans rfl
theorem f_Mo_sayRiver_21 : fx n_Mo_sayRiver 21 = some (.aload_n 0, 22, []) := (congrArg (fun t => fxl t 21) e_149).trans rfl
theorem f_Mo_sayRiver_22 : fx n_Mo_sayRiver 22 = some (.bipush 10, 24, []) := (congrArg (fun t => fxl t 22) e_149).trans rfl
theorem f_Mo_sayRiver_24 : fx n_Mo_sayRiver 24 = some (.invokevirtual 216, 27, [126, 1]) := (congrArg (fun t => fxl t 24) e_149).trans rfl
theorem f_Mo_sayRiver_27 : fx n_Mo_sayRiver 27 = some (.i2l, 28, []) := (congrArg (fun t => fxl t 27) e_149).trans rfl
theorem f_Mo_sayRiver_28 : fx n_Mo_sayRiver 28 = some (.invokevirtual 280, 31, [147, 1]) := (congrArg (fun t => fxl t 28) e_149).trans rfl
theorem f_Mo_sayRiver_31 : fx n_Mo_sayRiver 31 = some (.aload_n 0, 32, []) := (congrArg (fun t => fxl t 31) e_149).trans rfl
theorem f_Mo_sayRiver_32 : fx n_Mo_sayRiver 32 = some (.aload_n 0, 33, []) := (congrArg (fun t => fxl t 32) e_149).trans rfl
theorem f_Mo_sayRiver_33 : fx n_Mo_sayRiver 33 = some (.bipush 11, 35, []) := (congrArg (fun t => fxl t 33) e_149).trans rfl
theorem f_Mo_sayRiver_35 : fx n_Mo_sayRiver 35 = some (.invokevirtual 216, 38, [126, 1]) := (congrArg (fun t => fxl t 35) e_149).trans rfl
theorem f_Mo_sayRiver_38 : fx n_Mo_sayRiver 38 = some (.i2l, 39, []) := (congrArg (fun t => fxl t 38) e_149).trans rfl
theorem f_Mo_sayRiver_39 : fx n_Mo_sayRiver 39 = some (.invokevirtual 280, 42, [147, 1]) := (congrArg (fun t => fxl t 39) e_149).trans rfl
theorem f_Mo_sayRiver_42 : fx n_Mo_sayRiver 42 = some (.aload_n 0, 43, []) := (congrArg (fun t => fxl t 42) e_149).trans rfl
theorem f_Mo_sayRiver_43 : fx n_Mo_sayRiver 43 = some (.aload_n 0, 44, []) := (congrArg (fun t => fxl t 43) e_149).trans rfl
theorem f_Mo_sayRiver_44 : fx n_Mo_sayRiver 44 = some (.bipush 12, 46, []) := (congrArg (fun t => fxl t 44) e_149).trans rfl
theorem f_Mo_sayRiver_46 : fx n_Mo_sayRiver 46 = some (.invokevirtual 216, 49, [126, 1]) := (congrArg (fun t => fxl t 46) e_149).trans rfl
theorem f_Mo_sayRiver_49 : fx n_Mo_sayRiver 49 = some (.i2l, 50, []) := (congrArg (fun t => fxl t 49) e_149).trans rfl
theorem f_Mo_sayRiver_50 : fx n_Mo_sayRiver 50 = some (.invokevirtual 280, 53, [147, 1]) := (congrArg (fun t => fxl t 50) e_149).trans rfl
theorem f_Mo_sayRiver_53 : fx n_Mo_sayRiver 53 = some (.aload_n 0, 54, []) := (congrArg (fun t => fxl t 53) e_149).trans rfl
theorem f_Mo_sayRiver_54 : fx n_Mo_sayRiver 54 = some (.aload_n 0, 55, []) := (congrArg (fun t => fxl t 54) e_149).trans rfl
theorem f_Mo_sayRiver_55 : fx n_Mo_sayRiver 55 = some (.iconst 0, 56, []) := (congrArg (fun t => fxl t 55) e_149).trans rfl
theorem f_Mo_sayRiver_56 : fx n_Mo_sayRiver 56 = some (.invokevirtual 222, 59, [129, 1]) := (congrArg (fun t => fxl t 56) e_149).trans rfl
theorem f_Mo_sayRiver_59 : fx n_Mo_sayRiver 59 = some (.i2l, 60, []) := (congrArg (fun t => fxl t 59) e_149).trans rfl
theorem f_Mo_sayRiver_60 : fx n_Mo_sayRiver 60 = some (.invokevirtual 280, 63, [147, 1]) := (congrArg (fun t => fxl t 60) e_149).trans rfl
theorem f_Mo_sayRiver_63 : fx n_Mo_sayRiver 63 = some (.aload_n 0, 64, []) := (congrArg (fun t => fxl t 63) e_149).trans rfl
theorem f_Mo_sayRiver_64 : fx n_Mo_sayRiver 64 = some (.aload_n 0, 65, []) := (congrArg (fun t => fxl t 64) e_149).trans rfl
theorem f_Mo_sayRiver_65 : fx n_Mo_sayRiver 65 = some (.iconst 1, 66, []) := (congrArg (fun t => fxl t 65) e_149).trans rfl
theorem f_Mo_sayRiver_66 : fx n_Mo_sayRiver 66 = some (.invokevirtual 222, 69, [129, 1]) := (congrArg (fun t => fxl t 66) e_149).trans rfl
theorem f_Mo_sayRiver_69 : fx n_Mo_sayRiver 69 = some (.i2l, 70, []) := (congrArg (fun t => fxl t 69) e_149).trans rfl
theorem f_Mo_sayRiver_70 : fx n_Mo_sayRiver 70 = some (.invokevirtual 280, 73, [147, 1]) := (congrArg (fun t => fxl t 70) e_149).trans rfl
theorem f_Mo_sayRiver_73 : fx n_Mo_sayRiver 73 = some (.return_, 74, []) := (congrArg (fun t => fxl t 73) e_149).trans rfl
theorem f_Mo_digest_0 : fx n_Mo_digest 0 = some (.aload_n 0, 1, []) := (congrArg (fun t => fxl t 0) e_150).trans rfl
theorem f_Mo_digest_1 : fx n_Mo_digest 1 = some (.ldc2_w 284, 4, []) := (congrArg (fun t => fxl t 1) e_150).trans rfl
theorem f_Mo_digest_4 : fx n_Mo_digest 4 = some (.putfield 276, 7, [7, 32]) := (congrArg (fun t => fxl t 4) e_150).trans rfl
theorem f_Mo_digest_7 : fx n_Mo_digest 7 = some (.iconst 0, 8, []) := (congrArg (fun t => fxl t 7) e_150).trans rfl
theorem f_Mo_digest_8 : fx n_Mo_digest 8 = some (.istore_n 1, 9, []) := (congrArg (fun t => fxl t 8) e_150).trans rfl
theorem f_Mo_digest_9 : fx n_Mo_digest 9 = some (.iload_n 1, 10, []) := (congrArg (fun t => fxl t 9) e_150).trans rfl
theorem f_Mo_digest_10 : fx n_Mo_digest 10 = some (.aload_n 0, 11, []) := (congrArg (fun t => fxl t 10) e_150).trans rfl
theorem f_Mo_digest_11 : fx n_Mo_digest 11 = some (.getfield 104, 14, [7, 3]) := (congrArg (fun t => fxl t 11) e_150).trans rfl
theorem f_Mo_digest_14 : fx n_Mo_digest 14 = some (.if_icmp .ge 56, 17, [70]) := (congrArg (fun t => fxl t 14) e_150).trans rfl
theorem f_Mo_digest_17 : fx n_Mo_digest 17 = some (.iconst 0, 18, []) := (congrArg (fun t => fxl t 17) e_150).trans rfl
theorem f_Mo_digest_18 : fx n_Mo_digest 18 = some (.istore_n 2, 19, []) := (congrArg (fun t => fxl t 18) e_150).trans rfl
theorem f_Mo_digest_19 : fx n_Mo_digest 19 = some (.iload_n 2, 20, []) := (congrArg (fun t => fxl t 19) e_150).trans rfl
theorem f_Mo_digest_20 : fx n_Mo_digest 20 = some (.bipush 13, 22, []) := (congrArg (fun t => fxl t 20) e_150).trans rfl
theorem f_Mo_digest_22 : fx n_Mo_digest 22 = some (.if_icmp .ge 20, 25, [42]) := (congrArg (fun t => fxl t 22) e_150).trans rfl
theorem f_Mo_digest_25 : fx n_Mo_digest 25 = some (.aload_n 0, 26, []) := (congrArg (fun t => fxl t 25) e_150).trans rfl
theorem f_Mo_digest_26 : fx n_Mo_digest 26 = some (.aload_n 0, 27, []) := (congrArg (fun t => fxl t 26) e_150).trans rfl
theorem f_Mo_digest_27 : fx n_Mo_digest 27 = some (.iload_n 1, 28, []) := (congrArg (fun t => fxl t 27) e_150).trans rfl
theorem f_Mo_digest_28 : fx n_Mo_digest 28 = some (.iload_n 2, 29, []) := (congrArg (fun t => fxl t 28) e_150).trans rfl
theorem f_Mo_digest_29 : fx n_Mo_digest 29 = some (.invokevirtual 161, 32, [111, 2]) := (congrArg (fun t => fxl t 29) e_150).trans rfl
theorem f_Mo_digest_32 : fx n_Mo_digest 32 = some (.i2l, 33, []) := (congrArg (fun t => fxl t 32) e_150).trans rfl
theorem f_Mo_digest_33 : fx n_Mo_digest 33 = some (.invokevirtual 280, 36, [147, 1]) := (congrArg (fun t => fxl t 33) e_150).trans rfl
theorem f_Mo_digest_36 : fx n_Mo_digest 36 = some (.iinc 2 1, 39, []) := (congrArg (fun t => fxl t 36) e_150).trans rfl
theorem f_Mo_digest_39 : fx n_Mo_digest 39 = some (.goto (-20), 42, [19]) := (congrArg (fun t => fxl t 39) e_150).trans rfl
theorem f_Mo_digest_42 : fx n_Mo_digest 42 = some (.aload_n 0, 43, []) := (congrArg (fun t => fxl t 42) e_150).trans rfl
theorem f_Mo_digest_43 : fx n_Mo_digest 43 = some (.aload_n 0, 44, []) := (congrArg (fun t => fxl t 43) e_150).trans rfl
theorem f_Mo_digest_44 : fx n_Mo_digest 44 = some (.iload_n 1, 45, []) := (congrArg (fun t => fxl t 44) e_150).trans rfl
theorem f_Mo_digest_45 : fx n_Mo_digest 45 = some (.iconst 0, 46, []) := (congrArg (fun t => fxl t 45) e_150).trans rfl
theorem f_Mo_digest_46 : fx n_Mo_digest 46 = some (.invokevirtual 234, 49, [133, 2]) := (congrArg (fun t => fxl t 46) e_150).trans rfl
theorem f_Mo_digest_49 : fx n_Mo_digest 49 = some (.i2l, 50, []) := (congrArg (fun t => fxl t 49) e_150).trans rfl
theorem f_Mo_digest_50 : fx n_Mo_digest 50 = some (.invokevirtual 280, 53, [147, 1]) := (congrArg (fun t => fxl t 50) e_150).trans rfl
theorem f_Mo_digest_53 : fx n_Mo_digest 53 = some (.aload_n 0, 54, []) := (congrArg (fun t => fxl t 53) e_150).trans rfl
theorem f_Mo_digest_54 : fx n_Mo_digest 54 = some (.aload_n 0, 55, []) := (congrArg (fun t => fxl t 54) e_150).trans rfl
theorem f_Mo_digest_55 : fx n_Mo_digest 55 = some (.iload_n 1, 56, []) := (congrArg (fun t => fxl t 55) e_150).trans rfl
theorem f_Mo_digest_56 : fx n_Mo_digest 56 = some (.iconst 1, 57, []) := (congrArg (fun t => fxl t 56) e_150).trans rfl
theorem f_Mo_digest_57 : fx n_Mo_digest 57 = some (.invokevirtual 234, 60, [133, 2]) := (congrArg (fun t => fxl t 57) e_150).trans rfl
theorem f_Mo_digest_60 : fx n_Mo_digest 60 = some (.i2l, 61, []) := (congrArg (fun t => fxl t 60) e_150).trans rfl
theorem f_Mo_digest_61 : fx n_Mo_digest 61 = some (.invokevirtual 280, 64, [147, 1]) := (congrArg (fun t => fxl t 61) e_150).trans rfl
theorem f_Mo_digest_64 : fx n_Mo_digest 64 = some (.iinc 1 1, 67, []) := (congrArg (fun t => fxl t 64) e_150).trans rfl
theorem f_Mo_digest_67 : fx n_Mo_digest 67 = some (.goto (-58), 70, [9]) := (congrArg (fun t => fxl t 67) e_150).trans rfl
theorem f_Mo_digest_70 : fx n_Mo_digest 70 = some (.iconst 0, 71, []) := (congrArg (fun t => fxl t 70) e_150).trans rfl
theorem f_Mo_digest_71 : fx n_Mo_digest 71 = some (.istore_n 1, 72, []) := (congrArg (fun t => fxl t 71) e_150).trans rfl
theorem f_Mo_digest_72 : fx n_Mo_digest 72 = some (.iload_n 1, 73, []) := (congrArg (fun t => fxl t 72) e_150).trans rfl
theorem f_Mo_digest_73 : fx n_Mo_digest 73 = some (.aload_n 0, 74, []) := (congrArg (fun t => fxl t 73) e_150).trans rfl
theorem f_Mo_digest_74 : fx n_Mo_digest 74 = some (.getfield 107, 77, [7, 4]) := (congrArg (fun t => fxl t 74) e_150).trans rfl
theorem f_Mo_digest_77 : fx n_Mo_digest 77 = some (.if_icmp .ge 14, 80, [91]) := (congrArg (fun t => fxl t 77) e_150).trans rfl
theorem f_Mo_digest_80 : fx n_Mo_digest 80 = some (.aload_n 0, 81, []) := (congrArg (fun t => fxl t 80) e_150).trans rfl
theorem f_Mo_digest_81 : fx n_Mo_digest 81 = some (.iload_n 1, 82, []) := (congrArg (fun t => fxl t 81) e_150).trans rfl
theorem f_Mo_digest_82 : fx n_Mo_digest 82 = some (.invokevirtual 286, 85, [148, 1]) := (congrArg (fun t => fxl t 82) e_150).trans rfl
theorem f_Mo_digest_85 : fx n_Mo_digest 85 = some (.iinc 1 1, 88, []) := (congrArg (fun t => fxl t 85) e_150).trans rfl
theorem f_Mo_digest_88 : fx n_Mo_digest 88 = some (.goto (-16), 91, [72]) := (congrArg (fun t => fxl t 88) e_150).trans rfl
theorem f_Mo_digest_91 : fx n_Mo_digest 91 = some (.aload_n 0, 92, []) := (congrArg (fun t => fxl t 91) e_150).trans rfl
theorem f_Mo_digest_92 : fx n_Mo_digest 92 = some (.invokevirtual 169, 95, [96, 0]) := (congrArg (fun t => fxl t 92) e_150).trans rfl
theorem f_Mo_digest_95 : fx n_Mo_digest 95 = some (.ifCond .ne 7, 98, [102]) := (congrArg (fun t => fxl t 95) e_150).trans rfl
theorem f_Mo_digest_98 : fx n_Mo_digest 98 = some (.aload_n 0, 99, []) := (congrArg (fun t => fxl t 98) e_150).trans rfl
theorem f_Mo_digest_99 : fx n_Mo_digest 99 = some (.invokevirtual 289, 102, [149, 0]) := (congrArg (fun t => fxl t 99) e_150).trans rfl
theorem f_Mo_digest_102 : fx n_Mo_digest 102 = some (.iconst 0, 103, []) := (congrArg (fun t => fxl t 102) e_150).trans rfl
theorem f_Mo_digest_103 : fx n_Mo_digest 103 = some (.istore_n 1, 104, []) := (congrArg (fun t => fxl t 103) e_150).trans rfl
theorem f_Mo_digest_104 : fx n_Mo_digest 104 = some (.iload_n 1, 105, []) := (congrArg (fun t => fxl t 104) e_150).trans rfl
theorem f_Mo_digest_105 : fx n_Mo_digest 105 = some (.aload_n 0, 106, []) := (congrArg (fun t => fxl t 105) e_150).trans rfl
theorem f_Mo_digest_106 : fx n_Mo_digest 106 = some (.getfield 77, 109, [7, 1]) := (congrArg (fun t => fxl t 106) e_150).trans rfl
theorem f_Mo_digest_109 : fx n_Mo_digest 109 = some (.if_icmp .ge 20, 112, [129]) := (congrArg (fun t => fxl t 109) e_150).trans rfl
theorem f_Mo_digest_112 : fx n_Mo_digest 112 = some (.aload_n 0, 113, []) := (congrArg (fun t => fxl t 112) e_150).trans rfl
theorem f_Mo_digest_113 : fx n_Mo_digest 113 = some (.aload_n 0, 114, []) := (congrArg (fun t => fxl t 113) e_150).trans rfl
theorem f_Mo_digest_114 : fx n_Mo_digest 114 = some (.getfield 7, 117, [7, 0]) := (congrArg (fun t => fxl t 114) e_150).trans rfl
theorem f_Mo_digest_117 : fx n_Mo_digest 117 = some (.iload_n 1, 118, []) := (congrArg (fun t => fxl t 117) e_150).trans rfl
theorem f_Mo_digest_118 : fx n_Mo_digest 118 = some (.iaload, 119, []) := (congrArg (fun t => fxl t 118) e_150).trans rfl
theorem f_Mo_digest_119 : fx n_Mo_digest 119 = some (.i2l, 120, []) := (congrArg (fun t => fxl t 119) e_150).trans rfl
theorem f_Mo_digest_120 : fx n_Mo_digest 120 = some (.invokevirtual 280, 123, [147, 1]) := (congrArg (fun t => fxl t 120) e_150).trans rfl
theorem f_Mo_digest_123 : fx n_Mo_digest 123 = some (.iinc 1 1, 126, []) := (congrArg (fun t => fxl t 123) e_150).trans rfl
theorem f_Mo_digest_126 : fx n_Mo_digest 126 = some (.goto (-22), 129, [104]) := (congrArg (fun t => fxl t 126) e_150).trans rfl
theorem f_Mo_digest_129 : fx n_Mo_digest 129 = some (.iconst 0, 130, []) := (congrArg (fun t => fxl t 129) e_150).trans rfl
theorem f_Mo_digest_130 : fx n_Mo_digest 130 = some (.istore_n 1, 131, []) := (congrArg (fun t => fxl t 130) e_150).trans rfl
theorem f_Mo_digest_131 : fx n_Mo_digest 131 = some (.iload_n 1, 132, []) := (congrArg (fun t => fxl t 131) e_150).trans rfl
theorem f_Mo_digest_132 : fx n_Mo_digest 132 = some (.bipush 11, 134, []) := (congrArg (fun t => fxl t 132) e_150).trans rfl
theorem f_Mo_digest_134 : fx n_Mo_digest 134 = some (.if_icmp .ge 19, 137, [153]) := (congrArg (fun t => fxl t 134) e_150).trans rfl
theorem f_Mo_digest_137 : fx n_Mo_digest 137 = some (.aload_n 0, 138, []) := (congrArg (fun t => fxl t 137) e_150).trans rfl
theorem f_Mo_digest_138 : fx n_Mo_digest 138 = some (.aload_n 0, 139, []) := (congrArg (fun t => fxl t 138) e_150).trans rfl
theorem f_Mo_digest_139 : fx n_Mo_digest 139 = some (.iload_n 1, 140, []) := (congrArg (fun t => fxl t 139) e_150).trans rfl
theorem f_Mo_digest_140 : fx n_Mo_digest 140 = some (.invokevirtual 271, 143, [145, 1]) := (congrArg (fun t => fxl t 140) e_150).trans rfl
theorem f_Mo_digest_143 : fx n_Mo_digest 143 = some (.i2l, 144, []) := (congrArg (fun t => fxl t 143) e_150).trans rfl
theorem f_Mo_digest_144 : fx n_Mo_digest 144 = some (.invokevirtual 280, 147, [147, 1]) := (congrArg (fun t => fxl t 144) e_150).trans rfl
theorem f_Mo_digest_147 : fx n_Mo_digest 147 = some (.iinc 1 1, 150, []) := (congrArg (fun t => fxl t 147) e_150).trans rfl
theorem f_Mo_digest_150 : fx n_Mo_digest 150 = some (.goto (-19), 153, [131]) := (congrArg (fun t => fxl t 150) e_150).trans rfl
theorem f_Mo_digest_153 : fx n_Mo_digest 153 = some (.aload_n 0, 154, []) := (congrArg (fun t => fxl t 153) e_150).trans rfl
theorem f_Mo_digest_154 : fx n_Mo_digest 154 = some (.getfield 276, 157, [7, 32]) := (congrArg (fun t => fxl t 154) e_150).trans rfl
theorem f_Mo_digest_157 : fx n_Mo_digest 157 = some (.lreturn, 158, []) := (congrArg (fun t => fxl t 157) e_150).trans rfl
theorem f_Int_bitCount_0 : fx n_Int_bitCount 0 = some (.iload_n 0, 1, []) := (congrArg (fun t => fxl t 0) e_151).trans rfl
theorem f_Int_bitCount_1 : fx n_Int_bitCount 1 = some (.iload_n 0, 2, []) := (congrArg (fun t => fxl t 1) e_151).trans rfl
theorem f_Int_bitCount_2 : fx n_Int_bitCount 2 = some (.iconst 1, 3, []) := (congrArg (fun t => fxl t 2) e_151).trans rfl
theorem f_Int_bitCount_3 : fx n_Int_bitCount 3 = some (.iushr, 4, []) := (congrArg (fun t => fxl t 3) e_151).trans rfl
theorem f_Int_bitCount_4 : fx n_Int_bitCount 4 = some (.ldc_w 265, 7, []) := (congrArg (fun t => fxl t 4) e_151).trans rfl
theorem f_Int_bitCount_7 : fx n_Int_bitCount 7 = some (.iand, 8, []) := (congrArg (fun t => fxl t 7) e_151).trans rfl
theorem f_Int_bitCount_8 : fx n_Int_bitCount 8 = some (.isub, 9, []) := (congrArg (fun t => fxl t 8) e_151).trans rfl
theorem f_Int_bitCount_9 : fx n_Int_bitCount 9 = some (.istore_n 0, 10, []) := (congrArg (fun t => fxl t 9) e_151).trans rfl
theorem f_Int_bitCount_10 : fx n_Int_bitCount 10 = some (.iload_n 0, 11, []) := (congrArg (fun t => fxl t 10) e_151).trans rfl
theorem f_Int_bitCount_11 : fx n_Int_bitCount 11 = some (.ldc_w 266, 14, []) := (congrArg (fun t => fxl t 11) e_151).trans rfl
theorem f_Int_bitCount_14 : fx n_Int_bitCount 14 = some (.iand, 15, []) := (congrArg (fun t => fxl t 14) e_151).trans rfl
theorem f_Int_bitCount_15 : fx n_Int_bitCount 15 = some (.iload_n 0, 16, []) := (congrArg (fun t => fxl t 15) e_151).trans rfl
theorem f_Int_bitCount_16 : fx n_Int_bitCount 16 = some (.iconst 2, 17, []) := (congrArg (fun t => fxl t 16) e_151).trans rfl
theorem f_Int_bitCount_17 : fx n_Int_bitCount 17 = some (.iushr, 18, []) := (congrArg (fun t => fxl t 17) e_151).trans rfl
theorem f_Int_bitCount_18 : fx n_Int_bitCount 18 = some (.ldc_w 266, 21, []) := (congrArg (fun t => fxl t 18) e_151).trans rfl
theorem f_Int_bitCount_21 : fx n_Int_bitCount 21 = some (.iand, 22, []) := (congrArg (fun t => fxl t 21) e_151).trans rfl
theorem f_Int_bitCount_22 : fx n_Int_bitCount 22 = some (.iadd, 23, []) := (congrArg (fun t => fxl t 22) e_151).trans rfl
theorem f_Int_bitCount_23 : fx n_Int_bitCount 23 = some (.istore_n 0, 24, []) := (congrArg (fun t => fxl t 23) e_151).trans rfl
theorem f_Int_bitCount_24 : fx n_Int_bitCount 24 = some (.iload_n 0, 25, []) := (congrArg (fun t => fxl t 24) e_151).trans rfl
theorem f_Int_bitCount_25 : fx n_Int_bitCount 25 = some (.iload_n 0, 26, []) := (congrArg (fun t => fxl t 25) e_151).trans rfl
theorem f_Int_bitCount_26 : fx n_Int_bitCount 26 = some (.iconst 4, 27, []) := (congrArg (fun t => fxl t 26) e_151).trans rfl
theorem f_Int_bitCount_27 : fx n_Int_bitCount 27 = some (.iushr, 28, []) := (congrArg (fun t => fxl t 27) e_151).trans rfl
theorem f_Int_bitCount_28 : fx n_Int_bitCount 28 = some (.iadd, 29, []) := (congrArg (fun t => fxl t 28) e_151).trans rfl
theorem f_Int_bitCount_29 : fx n_Int_bitCount 29 = some (.ldc_w 267, 32, []) := (congrArg (fun t => fxl t 29) e_151).trans rfl
theorem f_Int_bitCount_32 : fx n_Int_bitCount 32 = some (.iand, 33, []) := (congrArg (fun t => fxl t 32) e_151).trans rfl
theorem f_Int_bitCount_33 : fx n_Int_bitCount 33 = some (.istore_n 0, 34, []) := (congrArg (fun t => fxl t 33) e_151).trans rfl
theorem f_Int_bitCount_34 : fx n_Int_bitCount 34 = some (.iload_n 0, 35, []) := (congrArg (fun t => fxl t 34) e_151).trans rfl
theorem f_Int_bitCount_35 : fx n_Int_bitCount 35 = some (.iload_n 0, 36, []) := (congrArg (fun t => fxl t 35) e_151).trans rfl
theorem f_Int_bitCount_36 : fx n_Int_bitCount 36 = some (.bipush 8, 38, []) := (congrArg (fun t => fxl t 36) e_151).trans rfl
theorem f_Int_bitCount_38 : fx n_Int_bitCount 38 = some (.iushr, 39, []) := (congrArg (fun t => fxl t 38) e_151).trans rfl
theorem f_Int_bitCount_39 : fx n_Int_bitCount 39 = some (.iadd, 40, []) := (congrArg (fun t => fxl t 39) e_151).trans rfl
theorem f_Int_bitCount_40 : fx n_Int_bitCount 40 = some (.istore_n 0, 41, []) := (congrArg (fun t => fxl t 40) e_151).trans rfl
theorem f_Int_bitCount_41 : fx n_Int_bitCount 41 = some (.iload_n 0, 42, []) := (congrArg (fun t => fxl t 41) e_151).trans rfl
theorem f_Int_bitCount_42 : fx n_Int_bitCount 42 = some (.iload_n 0, 43, []) := (congrArg (fun t => fxl t 42) e_151).trans rfl
theorem f_Int_bitCount_43 : fx n_Int_bitCount 43 = some (.bipush 16, 45, []) := (congrArg (fun t => fxl t 43) e_151).trans rfl
theorem f_Int_bitCount_45 : fx n_Int_bitCount 45 = some (.iushr, 46, []) := (congrArg (fun t => fxl t 45) e_151).trans rfl
theorem f_Int_bitCount_46 : fx n_Int_bitCount 46 = some (.iadd, 47, []) := (congrArg (fun t => fxl t 46) e_151).trans rfl
theorem f_Int_bitCount_47 : fx n_Int_bitCount 47 = some (.istore_n 0, 48, []) := (congrArg (fun t => fxl t 47) e_151).trans rfl
theorem f_Int_bitCount_48 : fx n_Int_bitCount 48 = some (.iload_n 0, 49, []) := (congrArg (fun t => fxl t 48) e_151).trans rfl
theorem f_Int_bitCount_49 : fx n_Int_bitCount 49 = some (.bipush 63, 51, []) := (congrArg (fun t => fxl t 49) e_151).trans rfl
theorem f_Int_bitCount_51 : fx n_Int_bitCount 51 = some (.iand, 52, []) := (congrArg (fun t => fxl t 51) e_151).trans rfl
theorem f_Int_bitCount_52 : fx n_Int_bitCount 52 = some (.ireturn, 53, []) := (congrArg (fun t => fxl t 52) e_151).trans rfl
theorem f_Law_law_0 : fx n_Law_law 0 = some (.new 7, 3, []) := (congrArg (fun t => fxl t 0) e_152).trans rfl
theorem f_Law_law_3 : fx n_Law_law 3 = some (.dup, 4, []) := (congrArg (fun t => fxl t 3) e_152).trans rfl
theorem f_Law_law_4 : fx n_Law_law 4 = some (.invokespecial 9, 7, []) := (congrArg (fun t => fxl t 4) e_152).trans rfl
theorem f_Law_law_7 : fx n_Law_law 7 = some (.astore_n 1, 8, []) := (congrArg (fun t => fxl t 7) e_152).trans rfl
theorem f_Law_law_8 : fx n_Law_law 8 = some (.new 10, 11, []) := (congrArg (fun t => fxl t 8) e_152).trans rfl
theorem f_Law_law_11 : fx n_Law_law 11 = some (.dup, 12, []) := (congrArg (fun t => fxl t 11) e_152).trans rfl
theorem f_Law_law_12 : fx n_Law_law 12 = some (.invokespecial 12, 15, []) := (congrArg (fun t => fxl t 12) e_152).trans rfl
theorem f_Law_law_15 : fx n_Law_law 15 = some (.astore_n 2, 16, []) := (congrArg (fun t => fxl t 15) e_152).trans rfl
theorem f_Law_law_16 : fx n_Law_law 16 = some (.iconst 0, 17, []) := (congrArg (fun t => fxl t 16) e_152).trans rfl
theorem f_Law_law_17 : fx n_Law_law 17 = some (.istore_n 3, 18, []) := (congrArg (fun t => fxl t 17) e_152).trans rfl
theorem f_Law_law_18 : fx n_Law_law 18 = some (.iload_n 3, 19, []) := (congrArg (fun t => fxl t 18) e_152).trans rfl
theorem f_Law_law_19 : fx n_Law_law 19 = some (.aload_n 0, 20, []) := (congrArg (fun t => fxl t 19) e_152).trans rfl
theorem f_Law_law_20 : fx n_Law_law 20 = some (.arraylength, 21, []) := (congrArg (fun t => fxl t 20) e_152).trans rfl
theorem f_Law_law_21 : fx n_Law_law 21 = some (.iconst 4, 22, []) := (congrArg (fun t => fxl t 21) e_152).trans rfl
theorem f_Law_law_22 : fx n_Law_law 22 = some (.isub, 23, []) := (congrArg (fun t => fxl t 22) e_152).trans rfl
theorem f_Law_law_23 : fx n_Law_law 23 = some (.if_icmp .gt 719, 26, [742]) := (congrArg (fun t => fxl t 23) e_152).trans rfl
theorem f_Law_law_26 : fx n_Law_law 26 = some (.aload_n 0, 27, []) := (congrArg (fun t => fxl t 26) e_152).trans rfl
theorem f_Law_law_27 : fx n_Law_law 27 = some (.iload_n 3, 28, []) := (congrArg (fun t => fxl t 27) e_152).trans rfl
theorem f_Law_law_28 : fx n_Law_law 28 = some (.iaload, 29, []) := (congrArg (fun t => fxl t 28) e_152).trans rfl
theorem f_Law_law_29 : fx n_Law_law 29 = some (.bipush 31, 31, []) := (congrArg (fun t => fxl t 29) e_152).trans rfl
theorem f_Law_law_31 : fx n_Law_law 31 = some (.iand, 32, []) := (congrArg (fun t => fxl t 31) e_152).trans rfl
theorem f_Law_law_32 : fx n_Law_law 32 = some (.tableswitch 704 0 22 #[108, 131, 144, 157, 170, 203, 236, 259, 292, 305, 338, 371, 404, 447, 470, 493, 526, 585, 598, 641, 654, 667, 690], 140, [736, 140, 163, 176, 189, 202, 235, 268, 291, 324, 337, 370, 403, 436, 479, 502, 525, 558, 617, 630, 673, 686, 699, 722]) := (congrArg (fun t => fxl t 32) e_152).trans rfl
theorem f_Law_law_140 : fx n_Law_law 140 = some (.aload_n 1, 141, []) := (congrArg (fun t => fxl t 140) e_152).trans rfl
theorem f_Law_law_141 : fx n_Law_law 141 = some (.aload_n 0, 142, []) := (congrArg (fun t => fxl t 141) e_152).trans rfl
theorem f_Law_law_142 : fx n_Law_law 142 = some (.iload_n 3, 143, []) := (congrArg (fun t => fxl t 142) e_152).trans rfl
theorem f_Law_law_143 : fx n_Law_law 143 = some (.iconst 1, 144, []) := (congrArg (fun t => fxl t 143) e_152).trans rfl
theorem f_Law_law_144 : fx n_Law_law 144 = some (.iadd, 145, []) := (congrArg (fun t => fxl t 144) e_152).trans rfl
theorem f_Law_law_145 : fx n_Law_law 145 = some (.iaload, 146, []) := (congrArg (fun t => fxl t 145) e_152).trans rfl
theorem f_Law_law_146 : fx n_Law_law 146 = some (.invokevirtual 13, 149, [50, 1]) := (congrArg (fun t => fxl t 146) e_152).trans rfl
theorem f_Law_law_149 : fx n_Law_law 149 = some (.aload_n 2, 150, []) := (congrArg (fun t => fxl t 149) e_152).trans rfl
theorem f_Law_law_150 : fx n_Law_law 150 = some (.aload_n 0, 151, []) := (congrArg (fun t => fxl t 150) e_152).trans rfl
theorem f_Law_law_151 : fx n_Law_law 151 = some (.iload_n 3, 152, []) := (congrArg (fun t => fxl t 151) e_152).trans rfl
theorem f_Law_law_152 : fx n_Law_law 152 = some (.iconst 1, 153, []) := (congrArg (fun t => fxl t 152) e_152).trans rfl
theorem f_Law_law_153 : fx n_Law_law 153 = some (.iadd, 154, []) := (congrArg (fun t => fxl t 153) e_152).trans rfl
theorem f_Law_law_154 : fx n_Law_law 154 = some (.iaload, 155, []) := (congrArg (fun t => fxl t 154) e_152).trans rfl
theorem f_Law_law_155 : fx n_Law_law 155 = some (.invokevirtual 17, 158, [88, 1]) := (congrArg (fun t => fxl t 155) e_152).trans rfl
theorem f_Law_law_158 : fx n_Law_law 158 = some (.if_icmp .eq 578, 161, [736]) := (congrArg (fun t => fxl t 158) e_152).trans rfl
theorem f_Law_law_161 : fx n_Law_law 161 = some (.iconst 0, 162, []) := (congrArg (fun t => fxl t 161) e_152).trans rfl
theorem f_Law_law_162 : fx n_Law_law 162 = some (.ireturn, 163, []) := (congrArg (fun t => fxl t 162) e_152).trans rfl
theorem f_Law_law_163 : fx n_Law_law 163 = some (.aload_n 1, 164, []) := (congrArg (fun t => fxl t 163) e_152).trans rfl
theorem f_Law_law_164 : fx n_Law_law 164 = some (.invokevirtual 18, 167, [51, 0]) := (congrArg (fun t => fxl t 164) e_152).trans rfl
theorem f_Law_law_167 : fx n_Law_law 167 = some (.aload_n 2, 168, []) := (congrArg (fun t => fxl t 167) e_152).trans rfl
theorem f_Law_law_168 : fx n_Law_law 168 = some (.invokevirtual 22, 171, [89, 0]) := (congrArg (fun t => fxl t 168) e_152).trans rfl
theorem f_Law_law_171 : fx n_Law_law 171 = some (.if_icmp .eq 565, 174, [736]) := (congrArg (fun t => fxl t 171) e_152).trans rfl
theorem f_Law_law_174 : fx n_Law_law 174 = some (.iconst 0, 175, []) := (congrArg (fun t => fxl t 174) e_152).trans rfl
theorem f_Law_law_175 : fx n_Law_law 175 = some (.ireturn, 176, []) := (congrArg (fun t => fxl t 175) e_152).trans rfl
theorem f_Law_law_176 : fx n_Law_law 176 = some (.aload_n 1, 177, []) := (congrArg (fun t => fxl t 176) e_152).trans rfl
theorem f_Law_law_177 : fx n_Law_law 177 = some (.invokevirtual 23, 180, [52, 0]) := (congrArg (fun t => fxl t 177) e_152).trans rfl
theorem f_Law_law_180 : fx n_Law_law 180 = some (.aload_n 2, 181, []) := (congrArg (fun t => fxl t 180) e_152).trans rfl
theorem f_Law_law_181 : fx n_Law_law 181 = some (.invokevirtual 26, 184, [94, 0]) := (congrArg (fun t => fxl t 181) e_152).trans rfl
theorem f_Law_law_184 : fx n_Law_law 184 = some (.if_icmp .eq 552, 187, [736]) := (congrArg (fun t => fxl t 184) e_152).trans rfl
theorem f_Law_law_187 : fx n_Law_law 187 = some (.iconst 0, 188, []) := (congrArg (fun t => fxl t 187) e_152).trans rfl
theorem f_Law_law_188 : fx n_Law_law 188 = some (.ireturn, 189, []) := (congrArg (fun t => fxl t 188) e_152).trans rfl
theorem f_Law_law_189 : fx n_Law_law 189 = some (.aload_n 1, 190, []) := (congrArg (fun t => fxl t 189) e_152).trans rfl
theorem f_Law_law_190 : fx n_Law_law 190 = some (.invokevirtual 27, 193, [53, 0]) := (congrArg (fun t => fxl t 190) e_152).trans rfl
theorem f_Law_law_193 : fx n_Law_law 193 = some (.aload_n 2, 194, []) := (congrArg (fun t => fxl t 193) e_152).trans rfl
theorem f_Law_law_194 : fx n_Law_law 194 = some (.invokevirtual 30, 197, [95, 0]) := (congrArg (fun t => fxl t 194) e_152).trans rfl
theorem f_Law_law_197 : fx n_Law_law 197 = some (.if_icmp .eq 539, 200, [736]) := (congrArg (fun t => fxl t 197) e_152).trans rfl
theorem f_Law_law_200 : fx n_Law_law 200 = some (.iconst 0, 201, []) := (congrArg (fun t => fxl t 200) e_152).trans rfl
theorem f_Law_law_201 : fx n_Law_law 201 = some (.ireturn, 202, []) := (congrArg (fun t => fxl t 201) e_152).trans rfl
theorem f_Law_law_202 : fx n_Law_law 202 = some (.aload_n 1, 203, []) := (congrArg (fun t => fxl t 202) e_152).trans rfl
theorem f_Law_law_203 : fx n_Law_law 203 = some (.aload_n 0, 204, []) := (congrArg (fun t => fxl t 203) e_152).trans rfl
theorem f_Law_law_204 : fx n_Law_law 204 = some (.iload_n 3, 205, []) := (congrArg (fun t => fxl t 204) e_152).trans rfl
theorem f_Law_law_205 : fx n_Law_law 205 = some (.iconst 1, 206, []) := (congrArg (fun t => fxl t 205) e_152).trans rfl
theorem f_Law_law_206 : fx n_Law_law 206 = some (.iadd, 207, []) := (congrArg (fun t => fxl t 206) e_152).trans rfl
theorem f_Law_law_207 : fx n_Law_law 207 = some (.iaload, 208, []) := (congrArg (fun t => fxl t 207) e_152).trans rfl
theorem f_Law_law_208 : fx n_Law_law 208 = some (.aload_n 0, 209, []) := (congrArg (fun t => fxl t 208) e_152).trans rfl
theorem f_Law_law_209 : fx n_Law_law 209 = some (.iload_n 3, 210, []) := (congrArg (fun t => fxl t 209) e_152).trans rfl
theorem f_Law_law_210 : fx n_Law_law 210 = some (.iconst 2, 211, []) := (congrArg (fun t => fxl t 210) e_152).trans rfl
theorem f_Law_law_211 : fx n_Law_law 211 = some (.iadd, 212, []) := (congrArg (fun t => fxl t 211) e_152).trans rfl
theorem f_Law_law_212 : fx n_Law_law 212 = some (.iaload, 213, []) := (congrArg (fun t => fxl t 212) e_152).trans rfl
theorem f_Law_law_213 : fx n_Law_law 213 = some (.invokevirtual 31, 216, [54, 2]) := (congrArg (fun t => fxl t 213) e_152).trans rfl
theorem f_Law_law_216 : fx n_Law_law 216 = some (.aload_n 2, 217, []) := (congrArg (fun t => fxl t 216) e_152).trans rfl
theorem f_Law_law_217 : fx n_Law_law 217 = some (.aload_n 0, 218, []) := (congrArg (fun t => fxl t 217) e_152).trans rfl
theorem f_Law_law_218 : fx n_Law_law 218 = some (.iload_n 3, 219, []) := (congrArg (fun t => fxl t 218) e_152).trans rfl
theorem f_Law_law_219 : fx n_Law_law 219 = some (.iconst 1, 220, []) := (congrArg (fun t => fxl t 219) e_152).trans rfl
theorem f_Law_law_220 : fx n_Law_law 220 = some (.iadd, 221, []) := (congrArg (fun t => fxl t 220) e_152).trans rfl
theorem f_Law_law_221 : fx n_Law_law 221 = some (.iaload, 222, []) := (congrArg (fun t => fxl t 221) e_152).trans rfl
theorem f_Law_law_222 : fx n_Law_law 222 = some (.aload_n 0, 223, []) := (congrArg (fun t => fxl t 222) e_152).trans rfl
theorem f_Law_law_223 : fx n_Law_law 223 = some (.iload_n 3, 224, []) := (congrArg (fun t => fxl t 223) e_152).trans rfl
theorem f_Law_law_224 : fx n_Law_law 224 = some (.iconst 2, 225, []) := (congrArg (fun t => fxl t 224) e_152).trans rfl
theorem f_Law_law_225 : fx n_Law_law 225 = some (.iadd, 226, []) := (congrArg (fun t => fxl t 225) e_152).trans rfl
theorem f_Law_law_226 : fx n_Law_law 226 = some (.iaload, 227, []) := (congrArg (fun t => fxl t 226) e_152).trans rfl
theorem f_Law_law_227 : fx n_Law_law 227 = some (.invokevirtual 35, 230, [112, 2]) := (congrArg (fun t => fxl t 227) e_152).trans rfl
theorem f_Law_law_230 : fx n_Law_law 230 = some (.if_icmp .eq 506, 233, [736]) := (congrArg (fun t => fxl t 230) e_152).trans rfl
theorem f_Law_law_233 : fx n_Law_law 233 = some (.iconst 0, 234, []) := (congrArg (fun t => fxl t 233) e_152).trans rfl
theorem f_Law_law_234 : fx n_Law_law 234 = some (.ireturn, 235, []) := (congrArg (fun t => fxl t 234) e_152).trans rfl
theorem f_Law_law_235 : fx n_Law_law 235 = some (.aload_n 1, 236, []) := (congrArg (fun t => fxl t 235) e_152).trans rfl
theorem f_Law_law_236 : fx n_Law_law 236 = some (.aload_n 0, 237, []) := (congrArg (fun t => fxl t 236) e_152).trans rfl
theorem f_Law_law_237 : fx n_Law_law 237 = some (.iload_n 3, 238, []) := (congrArg (fun t => fxl t 237) e_152).trans rfl
theorem f_Law_law_238 : fx n_Law_law 238 = some (.iconst 1, 239, []) := (congrArg (fun t => fxl t 238) e_152).trans rfl
theorem f_Law_law_239 : fx n_Law_law 239 = some (.iadd, 240, []) := (congrArg (fun t => fxl t 239) e_152).trans rfl
theorem f_Law_law_240 : fx n_Law_law 240 = some (.iaload, 241, []) := (congrArg (fun t => fxl t 240) e_152).trans rfl
theorem f_Law_law_241 : fx n_Law_law 241 = some (.aload_n 0, 242, []) := (congrArg (fun t => fxl t 241) e_152).trans rfl
theorem f_Law_law_242 : fx n_Law_law 242 = some (.iload_n 3, 243, []) := (congrArg (fun t => fxl t 242) e_152).trans rfl
theorem f_Law_law_243 : fx n_Law_law 243 = some (.iconst 2, 244, []) := (congrArg (fun t => fxl t 243) e_152).trans rfl
theorem f_Law_law_244 : fx n_Law_law 244 = some (.iadd, 245, []) := (congrArg (fun t => fxl t 244) e_152).trans rfl
theorem f_Law_law_245 : fx n_Law_law 245 = some (.iaload, 246, []) := (congrArg (fun t => fxl t 245) e_152).trans rfl
theorem f_Law_law_246 : fx n_Law_law 246 = some (.invokevirtual 36, 249, [55, 2]) := (congrArg (fun t => fxl t 246) e_152).trans rfl
theorem f_Law_law_249 : fx n_Law_law 249 = some (.aload_n 2, 250, []) := (congrArg (fun t => fxl t 249) e_152).trans rfl
theorem f_Law_law_250 : fx n_Law_law 250 = some (.aload_n 0, 251, []) := (congrArg (fun t => fxl t 250) e_152).trans rfl
theorem f_Law_law_251 : fx n_Law_law 251 = some (.iload_n 3, 252, []) := (congrArg (fun t => fxl t 251) e_152).trans rfl
theorem f_Law_law_252 : fx n_Law_law 252 = some (.iconst 1, 253, []) := (congrArg (fun t => fxl t 252) e_152).trans rfl
theorem f_Law_law_253 : fx n_Law_law 253 = some (.iadd, 254, []) := (congrArg (fun t => fxl t 253) e_152).trans rfl
theorem f_Law_law_254 : fx n_Law_law 254 = some (.iaload, 255, []) := (congrArg (fun t => fxl t 254) e_152).trans rfl
theorem f_Law_law_255 : fx n_Law_law 255 = some (.aload_n 0, 256, []) := (congrArg (fun t => fxl t 255) e_152).trans rfl
theorem f_Law_law_256 : fx n_Law_law 256 = some (.iload_n 3, 257, []) := (congrArg (fun t => fxl t 256) e_152).trans rfl
theorem f_Law_law_257 : fx n_Law_law 257 = some (.iconst 2, 258, []) := (congrArg (fun t => fxl t 257) e_152).trans rfl
theorem f_Law_law_258 : fx n_Law_law 258 = some (.iadd, 259, []) := (congrArg (fun t => fxl t 258) e_152).trans rfl
theorem f_Law_law_259 : fx n_Law_law 259 = some (.iaload, 260, []) := (congrArg (fun t => fxl t 259) e_152).trans rfl
theorem f_Law_law_260 : fx n_Law_law 260 = some (.invokevirtual 39, 263, [113, 2]) := (congrArg (fun t => fxl t 260) e_152).trans rfl
theorem f_Law_law_263 : fx n_Law_law 263 = some (.if_icmp .eq 473, 266, [736]) := (congrArg (fun t => fxl t 263) e_152).trans rfl
theorem f_Law_law_266 : fx n_Law_law 266 = some (.iconst 0, 267, []) := (congrArg (fun t => fxl t 266) e_152).trans rfl
theorem f_Law_law_267 : fx n_Law_law 267 = some (.ireturn, 268, []) := (congrArg (fun t => fxl t 267) e_152).trans rfl
theorem f_Law_law_268 : fx n_Law_law 268 = some (.aload_n 1, 269, []) := (congrArg (fun t => fxl t 268) e_152).trans rfl
theorem f_Law_law_269 : fx n_Law_law 269 = some (.aload_n 0, 270, []) := (congrArg (fun t => fxl t 269) e_152).trans rfl
theorem f_Law_law_270 : fx n_Law_law 270 = some (.iload_n 3, 271, []) := (congrArg (fun t => fxl t 270) e_152).trans rfl
theorem f_Law_law_271 : fx n_Law_law 271 = some (.iconst 1, 272, []) := (congrArg (fun t => fxl t 271) e_152).trans rfl
theorem f_Law_law_272 : fx n_Law_law 272 = some (.iadd, 273, []) := (congrArg (fun t => fxl t 272) e_152).trans rfl
theorem f_Law_law_273 : fx n_Law_law 273 = some (.iaload, 274, []) := (congrArg (fun t => fxl t 273) e_152).trans rfl
theorem f_Law_law_274 : fx n_Law_law 274 = some (.invokevirtual 40, 277, [56, 1]) := (congrArg (fun t => fxl t 274) e_152).trans rfl
theorem f_Law_law_277 : fx n_Law_law 277 = some (.aload_n 2, 278, []) := (congrArg (fun t => fxl t 277) e_152).trans rfl
theorem f_Law_law_278 : fx n_Law_law 278 = some (.aload_n 0, 279, []) := (congrArg (fun t => fxl t 278) e_152).trans rfl
theorem f_Law_law_279 : fx n_Law_law 279 = some (.iload_n 3, 280, []) := (congrArg (fun t => fxl t 279) e_152).trans rfl
theorem f_Law_law_280 : fx n_Law_law 280 = some (.iconst 1, 281, []) := (congrArg (fun t => fxl t 280) e_152).trans rfl
theorem f_Law_law_281 : fx n_Law_law 281 = some (.iadd, 282, []) := (congrArg (fun t => fxl t 281) e_152).trans rfl
theorem f_Law_law_282 : fx n_Law_law 282 = some (.iaload, 283, []) := (congrArg (fun t => fxl t 282) e_152).trans rfl
theorem f_Law_law_283 : fx n_Law_law 283 = some (.invokevirtual 43, 286, [114, 1]) := (congrArg (fun t => fxl t 283) e_152).trans rfl
theorem f_Law_law_286 : fx n_Law_law 286 = some (.if_icmp .eq 450, 289, [736]) := (congrArg (fun t => fxl t 286) e_152).trans rfl
theorem f_Law_law_289 : fx n_Law_law 289 = some (.iconst 0, 290, []) := (congrArg (fun t => fxl t 289) e_152).trans rfl
theorem f_Law_law_290 : fx n_Law_law 290 = some (.ireturn, 291, []) := (congrArg (fun t => fxl t 290) e_152).trans rfl
theorem f_Law_law_291 : fx n_Law_law 291 = some (.aload_n 1, 292, []) := (congrArg (fun t => fxl t 291) e_152).trans rfl
theorem f_Law_law_292 : fx n_Law_law 292 = some (.aload_n 0, 293, []) := (congrArg (fun t => fxl t 292) e_152).trans rfl
theorem f_Law_law_293 : fx n_Law_law 293 = some (.iload_n 3, 294, []) := (congrArg (fun t => fxl t 293) e_152).trans rfl
theorem f_Law_law_294 : fx n_Law_law 294 = some (.iconst 1, 295, []) := (congrArg (fun t => fxl t 294) e_152).trans rfl
theorem f_Law_law_295 : fx n_Law_law 295 = some (.iadd, 296, []) := (congrArg (fun t => fxl t 295) e_152).trans rfl
theorem f_Law_law_296 : fx n_Law_law 296 = some (.iaload, 297, []) := (congrArg (fun t => fxl t 296) e_152).trans rfl
theorem f_Law_law_297 : fx n_Law_law 297 = some (.aload_n 0, 298, []) := (congrArg (fun t => fxl t 297) e_152).trans rfl
theorem f_Law_law_298 : fx n_Law_law 298 = some (.iload_n 3, 299, []) := (congrArg (fun t => fxl t 298) e_152).trans rfl
theorem f_Law_law_299 : fx n_Law_law 299 = some (.iconst 2, 300, []) := (congrArg (fun t => fxl t 299) e_152).trans rfl
theorem f_Law_law_300 : fx n_Law_law 300 = some (.iadd, 301, []) := (congrArg (fun t => fxl t 300) e_152).trans rfl
theorem f_Law_law_301 : fx n_Law_law 301 = some (.iaload, 302, []) := (congrArg (fun t => fxl t 301) e_152).trans rfl
theorem f_Law_law_302 : fx n_Law_law 302 = some (.invokevirtual 44, 305, [57, 2]) := (congrArg (fun t => fxl t 302) e_152).trans rfl
theorem f_Law_law_305 : fx n_Law_law 305 = some (.aload_n 2, 306, []) := (congrArg (fun t => fxl t 305) e_152).trans rfl
theorem f_Law_law_306 : fx n_Law_law 306 = some (.aload_n 0, 307, []) := (congrArg (fun t => fxl t 306) e_152).trans rfl
theorem f_Law_law_307 : fx n_Law_law 307 = some (.iload_n 3, 308, []) := (congrArg (fun t => fxl t 307) e_152).trans rfl
theorem f_Law_law_308 : fx n_Law_law 308 = some (.iconst 1, 309, []) := (congrArg (fun t => fxl t 308) e_152).trans rfl
theorem f_Law_law_309 : fx n_Law_law 309 = some (.iadd, 310, []) := (congrArg (fun t => fxl t 309) e_152).trans rfl
theorem f_Law_law_310 : fx n_Law_law 310 = some (.iaload, 311, []) := (congrArg (fun t => fxl t 310) e_152).trans rfl
theorem f_Law_law_311 : fx n_Law_law 311 = some (.aload_n 0, 312, []) := (congrArg (fun t => fxl t 311) e_152).trans rfl
theorem f_Law_law_312 : fx n_Law_law 312 = some (.iload_n 3, 313, []) := (congrArg (fun t => fxl t 312) e_152).trans rfl
theorem f_Law_law_313 : fx n_Law_law 313 = some (.iconst 2, 314, []) := (congrArg (fun t => fxl t 313) e_152).trans rfl
theorem f_Law_law_314 : fx n_Law_law 314 = some (.iadd, 315, []) := (congrArg (fun t => fxl t 314) e_152).trans rfl
theorem f_Law_law_315 : fx n_Law_law 315 = some (.iaload, 316, []) := (congrArg (fun t => fxl t 315) e_152).trans rfl
theorem f_Law_law_316 : fx n_Law_law 316 = some (.invokevirtual 47, 319, [115, 2]) := (congrArg (fun t => fxl t 316) e_152).trans rfl
theorem f_Law_law_319 : fx n_Law_law 319 = some (.if_icmp .eq 417, 322, [736]) := (congrArg (fun t => fxl t 319) e_152).trans rfl
theorem f_Law_law_322 : fx n_Law_law 322 = some (.iconst 0, 323, []) := (congrArg (fun t => fxl t 322) e_152).trans rfl
theorem f_Law_law_323 : fx n_Law_law 323 = some (.ireturn, 324, []) := (congrArg (fun t => fxl t 323) e_152).trans rfl
theorem f_Law_law_324 : fx n_Law_law 324 = some (.aload_n 1, 325, []) := (congrArg (fun t => fxl t 324) e_152).trans rfl
theorem f_Law_law_325 : fx n_Law_law 325 = some (.invokevirtual 48, 328, [58, 0]) := (congrArg (fun t => fxl t 325) e_152).trans rfl
theorem f_Law_law_328 : fx n_Law_law 328 = some (.aload_n 2, 329, []) := (congrArg (fun t => fxl t 328) e_152).trans rfl
theorem f_Law_law_329 : fx n_Law_law 329 = some (.invokevirtual 51, 332, [116, 0]) := (congrArg (fun t => fxl t 329) e_152).trans rfl
theorem f_Law_law_332 : fx n_Law_law 332 = some (.if_icmp .eq 404, 335, [736]) := (congrArg (fun t => fxl t 332) e_152).trans rfl
theorem f_Law_law_335 : fx n_Law_law 335 = some (.iconst 0, 336, []) := (congrArg (fun t => fxl t 335) e_152).trans rfl
theorem f_Law_law_336 : fx n_Law_law 336 = some (.ireturn, 337, []) := (congrArg (fun t => fxl t 336) e_152).trans rfl
theorem f_Law_law_337 : fx n_Law_law 337 = some (.aload_n 1, 338, []) := (congrArg (fun t => fxl t 337) e_152).trans rfl
theorem f_Law_law_338 : fx n_Law_law 338 = some (.aload_n 0, 339, []) := (congrArg (fun t => fxl t 338) e_152).trans rfl
theorem f_Law_law_339 : fx n_Law_law 339 = some (.iload_n 3, 340, []) := (congrArg (fun t => fxl t 339) e_152).trans rfl
theorem f_Law_law_340 : fx n_Law_law 340 = some (.iconst 1, 341, []) := (congrArg (fun t => fxl t 340) e_152).trans rfl
theorem f_Law_law_341 : fx n_Law_law 341 = some (.iadd, 342, []) := (congrArg (fun t => fxl t 341) e_152).trans rfl
theorem f_Law_law_342 : fx n_Law_law 342 = some (.iaload, 343, []) := (congrArg (fun t => fxl t 342) e_152).trans rfl
theorem f_Law_law_343 : fx n_Law_law 343 = some (.aload_n 0, 344, []) := (congrArg (fun t => fxl t 343) e_152).trans rfl
theorem f_Law_law_344 : fx n_Law_law 344 = some (.iload_n 3, 345, []) := (congrArg (fun t => fxl t 344) e_152).trans rfl
theorem f_Law_law_345 : fx n_Law_law 345 = some (.iconst 2, 346, []) := (congrArg (fun t => fxl t 345) e_152).trans rfl
theorem f_Law_law_346 : fx n_Law_law 346 = some (.iadd, 347, []) := (congrArg (fun t => fxl t 346) e_152).trans rfl
theorem f_Law_law_347 : fx n_Law_law 347 = some (.iaload, 348, []) := (congrArg (fun t => fxl t 347) e_152).trans rfl
theorem f_Law_law_348 : fx n_Law_law 348 = some (.invokevirtual 52, 351, [59, 2]) := (congrArg (fun t => fxl t 348) e_152).trans rfl
theorem f_Law_law_351 : fx n_Law_law 351 = some (.aload_n 2, 352, []) := (congrArg (fun t => fxl t 351) e_152).trans rfl
theorem f_Law_law_352 : fx n_Law_law 352 = some (.aload_n 0, 353, []) := (congrArg (fun t => fxl t 352) e_152).trans rfl
theorem f_Law_law_353 : fx n_Law_law 353 = some (.iload_n 3, 354, []) := (congrArg (fun t => fxl t 353) e_152).trans rfl
theorem f_Law_law_354 : fx n_Law_law 354 = some (.iconst 1, 355, []) := (congrArg (fun t => fxl t 354) e_152).trans rfl
theorem f_Law_law_355 : fx n_Law_law 355 = some (.iadd, 356, []) := (congrArg (fun t => fxl t 355) e_152).trans rfl
theorem f_Law_law_356 : fx n_Law_law 356 = some (.iaload, 357, []) := (congrArg (fun t => fxl t 356) e_152).trans rfl
theorem f_Law_law_357 : fx n_Law_law 357 = some (.aload_n 0, 358, []) := (congrArg (fun t => fxl t 357) e_152).trans rfl
theorem f_Law_law_358 : fx n_Law_law 358 = some (.iload_n 3, 359, []) := (congrArg (fun t => fxl t 358) e_152).trans rfl
theorem f_Law_law_359 : fx n_Law_law 359 = some (.iconst 2, 360, []) := (congrArg (fun t => fxl t 359) e_152).trans rfl
theorem f_Law_law_360 : fx n_Law_law 360 = some (.iadd, 361, []) := (congrArg (fun t => fxl t 360) e_152).trans rfl
theorem f_Law_law_361 : fx n_Law_law 361 = some (.iaload, 362, []) := (congrArg (fun t => fxl t 361) e_152).trans rfl
theorem f_Law_law_362 : fx n_Law_law 362 = some (.invokevirtual 55, 365, [117, 2]) := (congrArg (fun t => fxl t 362) e_152).trans rfl
theorem f_Law_law_365 : fx n_Law_law 365 = some (.if_icmp .eq 371, 368, [736]) := (congrArg (fun t => fxl t 365) e_152).trans rfl
theorem f_Law_law_368 : fx n_Law_law 368 = some (.iconst 0, 369, []) := (congrArg (fun t => fxl t 368) e_152).trans rfl
theorem f_Law_law_369 : fx n_Law_law 369 = some (.ireturn, 370, []) := (congrArg (fun t => fxl t 369) e_152).trans rfl
theorem f_Law_law_370 : fx n_Law_law 370 = some (.aload_n 1, 371, []) := (congrArg (fun t => fxl t 370) e_152).trans rfl
theorem f_Law_law_371 : fx n_Law_law 371 = some (.aload_n 0, 372, []) := (congrArg (fun t => fxl t 371) e_152).trans rfl
theorem f_Law_law_372 : fx n_Law_law 372 = some (.iload_n 3, 373, []) := (congrArg (fun t => fxl t 372) e_152).trans rfl
theorem f_Law_law_373 : fx n_Law_law 373 = some (.iconst 1, 374, []) := (congrArg (fun t => fxl t 373) e_152).trans rfl
theorem f_Law_law_374 : fx n_Law_law 374 = some (.iadd, 375, []) := (congrArg (fun t => fxl t 374) e_152).trans rfl
theorem f_Law_law_375 : fx n_Law_law 375 = some (.iaload, 376, []) := (congrArg (fun t => fxl t 375) e_152).trans rfl
theorem f_Law_law_376 : fx n_Law_law 376 = some (.aload_n 0, 377, []) := (congrArg (fun t => fxl t 376) e_152).trans rfl
theorem f_Law_law_377 : fx n_Law_law 377 = some (.iload_n 3, 378, []) := (congrArg (fun t => fxl t 377) e_152).trans rfl
theorem f_Law_law_378 : fx n_Law_law 378 = some (.iconst 2, 379, []) := (congrArg (fun t => fxl t 378) e_152).trans rfl
theorem f_Law_law_379 : fx n_Law_law 379 = some (.iadd, 380, []) := (congrArg (fun t => fxl t 379) e_152).trans rfl
theorem f_Law_law_380 : fx n_Law_law 380 = some (.iaload, 381, []) := (congrArg (fun t => fxl t 380) e_152).trans rfl
theorem f_Law_law_381 : fx n_Law_law 381 = some (.invokevirtual 56, 384, [60, 2]) := (congrArg (fun t => fxl t 381) e_152).trans rfl
theorem f_Law_law_384 : fx n_Law_law 384 = some (.aload_n 2, 385, []) := (congrArg (fun t => fxl t 384) e_152).trans rfl
theorem f_Law_law_385 : fx n_Law_law 385 = some (.aload_n 0, 386, []) := (congrArg (fun t => fxl t 385) e_152).trans rfl
theorem f_Law_law_386 : fx n_Law_law 386 = some (.iload_n 3, 387, []) := (congrArg (fun t => fxl t 386) e_152).trans rfl
theorem f_Law_law_387 : fx n_Law_law 387 = some (.iconst 1, 388, []) := (congrArg (fun t => fxl t 387) e_152).trans rfl
theorem f_Law_law_388 : fx n_Law_law 388 = some (.iadd, 389, []) := (congrArg (fun t => fxl t 388) e_152).trans rfl
theorem f_Law_law_389 : fx n_Law_law 389 = some (.iaload, 390, []) := (congrArg (fun t => fxl t 389) e_152).trans rfl
theorem f_Law_law_390 : fx n_Law_law 390 = some (.aload_n 0, 391, []) := (congrArg (fun t => fxl t 390) e_152).trans rfl
theorem f_Law_law_391 : fx n_Law_law 391 = some (.iload_n 3, 392, []) := (congrArg (fun t => fxl t 391) e_152).trans rfl
theorem f_Law_law_392 : fx n_Law_law 392 = some (.iconst 2, 393, []) := (congrArg (fun t => fxl t 392) e_152).trans rfl
theorem f_Law_law_393 : fx n_Law_law 393 = some (.iadd, 394, []) := (congrArg (fun t => fxl t 393) e_152).trans rfl
theorem f_Law_law_394 : fx n_Law_law 394 = some (.iaload, 395, []) := (congrArg (fun t => fxl t 394) e_152).trans rfl
theorem f_Law_law_395 : fx n_Law_law 395 = some (.invokevirtual 59, 398, [118, 2]) := (congrArg (fun t => fxl t 395) e_152).trans rfl
theorem f_Law_law_398 : fx n_Law_law 398 = some (.if_icmp .eq 338, 401, [736]) := (congrArg (fun t => fxl t 398) e_152).trans rfl
theorem f_Law_law_401 : fx n_Law_law 401 = some (.iconst 0, 402, []) := (congrArg (fun t => fxl t 401) e_152).trans rfl
theorem f_Law_law_402 : fx n_Law_law 402 = some (.ireturn, 403, []) := (congrArg (fun t => fxl t 402) e_152).trans rfl
theorem f_Law_law_403 : fx n_Law_law 403 = some (.aload_n 1, 404, []) := (congrArg (fun t => fxl t 403) e_152).trans rfl
theorem f_Law_law_404 : fx n_Law_law 404 = some (.aload_n 0, 405, []) := (congrArg (fun t => fxl t 404) e_152).trans rfl
theorem f_Law_law_405 : fx n_Law_law 405 = some (.iload_n 3, 406, []) := (congrArg (fun t => fxl t 405) e_152).trans rfl
theorem f_Law_law_406 : fx n_Law_law 406 = some (.iconst 1, 407, []) := (congrArg (fun t => fxl t 406) e_152).trans rfl
theorem f_Law_law_407 : fx n_Law_law 407 = some (.iadd, 408, []) := (congrArg (fun t => fxl t 407) e_152).trans rfl
theorem f_Law_law_408 : fx n_Law_law 408 = some (.iaload, 409, []) := (congrArg (fun t => fxl t 408) e_152).trans rfl
theorem f_Law_law_409 : fx n_Law_law 409 = some (.aload_n 0, 410, []) := (congrArg (fun t => fxl t 409) e_152).trans rfl
theorem f_Law_law_410 : fx n_Law_law 410 = some (.iload_n 3, 411, []) := (congrArg (fun t => fxl t 410) e_152).trans rfl
theorem f_Law_law_411 : fx n_Law_law 411 = some (.iconst 2, 412, []) := (congrArg (fun t => fxl t 411) e_152).trans rfl
theorem f_Law_law_412 : fx n_Law_law 412 = some (.iadd, 413, []) := (congrArg (fun t => fxl t 412) e_152).trans rfl
theorem f_Law_law_413 : fx n_Law_law 413 = some (.iaload, 414, []) := (congrArg (fun t => fxl t 413) e_152).trans rfl
theorem f_Law_law_414 : fx n_Law_law 414 = some (.invokevirtual 60, 417, [61, 2]) := (congrArg (fun t => fxl t 414) e_152).trans rfl
theorem f_Law_law_417 : fx n_Law_law 417 = some (.aload_n 2, 418, []) := (congrArg (fun t => fxl t 417) e_152).trans rfl
theorem f_Law_law_418 : fx n_Law_law 418 = some (.aload_n 0, 419, []) := (congrArg (fun t => fxl t 418) e_152).trans rfl
theorem f_Law_law_419 : fx n_Law_law 419 = some (.iload_n 3, 420, []) := (congrArg (fun t => fxl t 419) e_152).trans rfl
theorem f_Law_law_420 : fx n_Law_law 420 = some (.iconst 1, 421, []) := (congrArg (fun t => fxl t 420) e_152).trans rfl
theorem f_Law_law_421 : fx n_Law_law 421 = some (.iadd, 422, []) := (congrArg (fun t => fxl t 421) e_152).trans rfl
theorem f_Law_law_422 : fx n_Law_law 422 = some (.iaload, 423, []) := (congrArg (fun t => fxl t 422) e_152).trans rfl
theorem f_Law_law_423 : fx n_Law_law 423 = some (.aload_n 0, 424, []) := (congrArg (fun t => fxl t 423) e_152).trans rfl
theorem f_Law_law_424 : fx n_Law_law 424 = some (.iload_n 3, 425, []) := (congrArg (fun t => fxl t 424) e_152).trans rfl
theorem f_Law_law_425 : fx n_Law_law 425 = some (.iconst 2, 426, []) := (congrArg (fun t => fxl t 425) e_152).trans rfl
theorem f_Law_law_426 : fx n_Law_law 426 = some (.iadd, 427, []) := (congrArg (fun t => fxl t 426) e_152).trans rfl
theorem f_Law_law_427 : fx n_Law_law 427 = some (.iaload, 428, []) := (congrArg (fun t => fxl t 427) e_152).trans rfl
theorem f_Law_law_428 : fx n_Law_law 428 = some (.invokevirtual 63, 431, [119, 2]) := (congrArg (fun t => fxl t 428) e_152).trans rfl
theorem f_Law_law_431 : fx n_Law_law 431 = some (.if_icmp .eq 305, 434, [736]) := (congrArg (fun t => fxl t 431) e_152).trans rfl
theorem f_Law_law_434 : fx n_Law_law 434 = some (.iconst 0, 435, []) := (congrArg (fun t => fxl t 434) e_152).trans rfl
theorem f_Law_law_435 : fx n_Law_law 435 = some (.ireturn, 436, []) := (congrArg (fun t => fxl t 435) e_152).trans rfl
theorem f_Law_law_436 : fx n_Law_law 436 = some (.aload_n 1, 437, []) := (congrArg (fun t => fxl t 436) e_152).trans rfl
theorem f_Law_law_437 : fx n_Law_law 437 = some (.aload_n 0, 438, []) := (congrArg (fun t => fxl t 437) e_152).trans rfl
theorem f_Law_law_438 : fx n_Law_law 438 = some (.iload_n 3, 439, []) := (congrArg (fun t => fxl t 438) e_152).trans rfl
theorem f_Law_law_439 : fx n_Law_law 439 = some (.iconst 1, 440, []) := (congrArg (fun t => fxl t 439) e_152).trans rfl
theorem f_Law_law_440 : fx n_Law_law 440 = some (.iadd, 441, []) := (congrArg (fun t => fxl t 440) e_152).trans rfl
theorem f_Law_law_441 : fx n_Law_law 441 = some (.iaload, 442, []) := (congrArg (fun t => fxl t 441) e_152).trans rfl
theorem f_Law_law_442 : fx n_Law_law 442 = some (.aload_n 0, 443, []) := (congrArg (fun t => fxl t 442) e_152).trans rfl
theorem f_Law_law_443 : fx n_Law_law 443 = some (.iload_n 3, 444, []) := (congrArg (fun t => fxl t 443) e_152).trans rfl
theorem f_Law_law_444 : fx n_Law_law 444 = some (.iconst 2, 445, []) := (congrArg (fun t => fxl t 444) e_152).trans rfl
theorem f_Law_law_445 : fx n_Law_law 445 = some (.iadd, 446, []) := (congrArg (fun t => fxl t 445) e_152).trans rfl
theorem f_Law_law_446 : fx n_Law_law 446 = some (.iaload, 447, []) := (congrArg (fun t => fxl t 446) e_152).trans rfl
theorem f_Law_law_447 : fx n_Law_law 447 = some (.aload_n 0, 448, []) := (congrArg (fun t => fxl t 447) e_152).trans rfl
theorem f_Law_law_448 : fx n_Law_law 448 = some (.iload_n 3, 449, []) := (congrArg (fun t => fxl t 448) e_152).trans rfl
theorem f_Law_law_449 : fx n_Law_law 449 = some (.iconst 3, 450, []) := (congrArg (fun t => fxl t 449) e_152).trans rfl
theorem f_Law_law_450 : fx n_Law_law 450 = some (.iadd, 451, []) := (congrArg (fun t => fxl t 450) e_152).trans rfl
theorem f_Law_law_451 : fx n_Law_law 451 = some (.iaload, 452, []) := (congrArg (fun t => fxl t 451) e_152).trans rfl
theorem f_Law_law_452 : fx n_Law_law 452 = some (.invokevirtual 64, 455, [62, 3]) := (congrArg (fun t => fxl t 452) e_152).trans rfl
theorem f_Law_law_455 : fx n_Law_law 455 = some (.aload_n 2, 456, []) := (congrArg (fun t => fxl t 455) e_152).trans rfl
theorem f_Law_law_456 : fx n_Law_law 456 = some (.aload_n 0, 457, []) := (congrArg (fun t => fxl t 456) e_152).trans rfl
theorem f_Law_law_457 : fx n_Law_law 457 = some (.iload_n 3, 458, []) := (congrArg (fun t => fxl t 457) e_152).trans rfl
theorem f_Law_law_458 : fx n_Law_law 458 = some (.iconst 1, 459, []) := (congrArg (fun t => fxl t 458) e_152).trans rfl
theorem f_Law_law_459 : fx n_Law_law 459 = some (.iadd, 460, []) := (congrArg (fun t => fxl t 459) e_152).trans rfl
theorem f_Law_law_460 : fx n_Law_law 460 = some (.iaload, 461, []) := (congrArg (fun t => fxl t 460) e_152).trans rfl
theorem f_Law_law_461 : fx n_Law_law 461 = some (.aload_n 0, 462, []) := (congrArg (fun t => fxl t 461) e_152).trans rfl
theorem f_Law_law_462 : fx n_Law_law 462 = some (.iload_n 3, 463, []) := (congrArg (fun t => fxl t 462) e_152).trans rfl
theorem f_Law_law_463 : fx n_Law_law 463 = some (.iconst 2, 464, []) := (congrArg (fun t => fxl t 463) e_152).trans rfl
theorem f_Law_law_464 : fx n_Law_law 464 = some (.iadd, 465, []) := (congrArg (fun t => fxl t 464) e_152).trans rfl
theorem f_Law_law_465 : fx n_Law_law 465 = some (.iaload, 466, []) := (congrArg (fun t => fxl t 465) e_152).trans rfl
theorem f_Law_law_466 : fx n_Law_law 466 = some (.aload_n 0, 467, []) := (congrArg (fun t => fxl t 466) e_152).trans rfl
theorem f_Law_law_467 : fx n_Law_law 467 = some (.iload_n 3, 468, []) := (congrArg (fun t => fxl t 467) e_152).trans rfl
theorem f_Law_law_468 : fx n_Law_law 468 = some (.iconst 3, 469, []) := (congrArg (fun t => fxl t 468) e_152).trans rfl
theorem f_Law_law_469 : fx n_Law_law 469 = some (.iadd, 470, []) := (congrArg (fun t => fxl t 469) e_152).trans rfl
theorem f_Law_law_470 : fx n_Law_law 470 = some (.iaload, 471, []) := (congrArg (fun t => fxl t 470) e_152).trans rfl
theorem f_Law_law_471 : fx n_Law_law 471 = some (.invokevirtual 68, 474, [124, 3]) := (congrArg (fun t => fxl t 471) e_152).trans rfl
theorem f_Law_law_474 : fx n_Law_law 474 = some (.if_icmp .eq 262, 477, [736]) := (congrArg (fun t => fxl t 474) e_152).trans rfl
theorem f_Law_law_477 : fx n_Law_law 477 = some (.iconst 0, 478, []) := (congrArg (fun t => fxl t 477) e_152).trans rfl
theorem f_Law_law_478 : fx n_Law_law 478 = some (.ireturn, 479, []) := (congrArg (fun t => fxl t 478) e_152).trans rfl
theorem f_Law_law_479 : fx n_Law_law 479 = some (.aload_n 1, 480, []) := (congrArg (fun t => fxl t 479) e_152).trans rfl
theorem f_Law_law_480 : fx n_Law_law 480 = some (.aload_n 0, 481, []) := (congrArg (fun t => fxl t 480) e_152).trans rfl
theorem f_Law_law_481 : fx n_Law_law 481 = some (.iload_n 3, 482, []) := (congrArg (fun t => fxl t 481) e_152).trans rfl
theorem f_Law_law_482 : fx n_Law_law 482 = some (.iconst 1, 483, []) := (congrArg (fun t => fxl t 482) e_152).trans rfl
theorem f_Law_law_483 : fx n_Law_law 483 = some (.iadd, 484, []) := (congrArg (fun t => fxl t 483) e_152).trans rfl
theorem f_Law_law_484 : fx n_Law_law 484 = some (.iaload, 485, []) := (congrArg (fun t => fxl t 484) e_152).trans rfl
theorem f_Law_law_485 : fx n_Law_law 485 = some (.invokevirtual 69, 488, [63, 1]) := (congrArg (fun t => fxl t 485) e_152).trans rfl
theorem f_Law_law_488 : fx n_Law_law 488 = some (.aload_n 2, 489, []) := (congrArg (fun t => fxl t 488) e_152).trans rfl
theorem f_Law_law_489 : fx n_Law_law 489 = some (.aload_n 0, 490, []) := (congrArg (fun t => fxl t 489) e_152).trans rfl
theorem f_Law_law_490 : fx n_Law_law 490 = some (.iload_n 3, 491, []) := (congrArg (fun t => fxl t 490) e_152).trans rfl
theorem f_Law_law_491 : fx n_Law_law 491 = some (.iconst 1, 492, []) := (congrArg (fun t => fxl t 491) e_152).trans rfl
theorem f_Law_law_492 : fx n_Law_law 492 = some (.iadd, 493, []) := (congrArg (fun t => fxl t 492) e_152).trans rfl
theorem f_Law_law_493 : fx n_Law_law 493 = some (.iaload, 494, []) := (congrArg (fun t => fxl t 493) e_152).trans rfl
theorem f_Law_law_494 : fx n_Law_law 494 = some (.invokevirtual 72, 497, [127, 1]) := (congrArg (fun t => fxl t 494) e_152).trans rfl
theorem f_Law_law_497 : fx n_Law_law 497 = some (.if_icmp .eq 239, 500, [736]) := (congrArg (fun t => fxl t 497) e_152).trans rfl
theorem f_Law_law_500 : fx n_Law_law 500 = some (.iconst 0, 501, []) := (congrArg (fun t => fxl t 500) e_152).trans rfl
theorem f_Law_law_501 : fx n_Law_law 501 = some (.ireturn, 502, []) := (congrArg (fun t => fxl t 501) e_152).trans rfl
theorem f_Law_law_502 : fx n_Law_law 502 = some (.aload_n 1, 503, []) := (congrArg (fun t => fxl t 502) e_152).trans rfl
theorem f_Law_law_503 : fx n_Law_law 503 = some (.aload_n 0, 504, []) := (congrArg (fun t => fxl t 503) e_152).trans rfl
theorem f_Law_law_504 : fx n_Law_law 504 = some (.iload_n 3, 505, []) := (congrArg (fun t => fxl t 504) e_152).trans rfl
theorem f_Law_law_505 : fx n_Law_law 505 = some (.iconst 1, 506, []) := (congrArg (fun t => fxl t 505) e_152).trans rfl
theorem f_Law_law_506 : fx n_Law_law 506 = some (.iadd, 507, []) := (congrArg (fun t => fxl t 506) e_152).trans rfl
theorem f_Law_law_507 : fx n_Law_law 507 = some (.iaload, 508, []) := (congrArg (fun t => fxl t 507) e_152).trans rfl
theorem f_Law_law_508 : fx n_Law_law 508 = some (.invokevirtual 73, 511, [64, 1]) := (congrArg (fun t => fxl t 508) e_152).trans rfl
theorem f_Law_law_511 : fx n_Law_law 511 = some (.aload_n 2, 512, []) := (congrArg (fun t => fxl t 511) e_152).trans rfl
theorem f_Law_law_512 : fx n_Law_law 512 = some (.aload_n 0, 513, []) := (congrArg (fun t => fxl t 512) e_152).trans rfl
theorem f_Law_law_513 : fx n_Law_law 513 = some (.iload_n 3, 514, []) := (congrArg (fun t => fxl t 513) e_152).trans rfl
theorem f_Law_law_514 : fx n_Law_law 514 = some (.iconst 1, 515, []) := (congrArg (fun t => fxl t 514) e_152).trans rfl
theorem f_Law_law_515 : fx n_Law_law 515 = some (.iadd, 516, []) := (congrArg (fun t => fxl t 515) e_152).trans rfl
theorem f_Law_law_516 : fx n_Law_law 516 = some (.iaload, 517, []) := (congrArg (fun t => fxl t 516) e_152).trans rfl
theorem f_Law_law_517 : fx n_Law_law 517 = some (.invokevirtual 76, 520, [130, 1]) := (congrArg (fun t => fxl t 517) e_152).trans rfl
theorem f_Law_law_520 : fx n_Law_law 520 = some (.if_icmp .eq 216, 523, [736]) := (congrArg (fun t => fxl t 520) e_152).trans rfl
theorem f_Law_law_523 : fx n_Law_law 523 = some (.iconst 0, 524, []) := (congrArg (fun t => fxl t 523) e_152).trans rfl
theorem f_Law_law_524 : fx n_Law_law 524 = some (.ireturn, 525, []) := (congrArg (fun t => fxl t 524) e_152).trans rfl
theorem f_Law_law_525 : fx n_Law_law 525 = some (.aload_n 1, 526, []) := (congrArg (fun t => fxl t 525) e_152).trans rfl
theorem f_Law_law_526 : fx n_Law_law 526 = some (.aload_n 0, 527, []) := (congrArg (fun t => fxl t 526) e_152).trans rfl
theorem f_Law_law_527 : fx n_Law_law 527 = some (.iload_n 3, 528, []) := (congrArg (fun t => fxl t 527) e_152).trans rfl
theorem f_Law_law_528 : fx n_Law_law 528 = some (.iconst 1, 529, []) := (congrArg (fun t => fxl t 528) e_152).trans rfl
theorem f_Law_law_529 : fx n_Law_law 529 = some (.iadd, 530, []) := (congrArg (fun t => fxl t 529) e_152).trans rfl
theorem f_Law_law_530 : fx n_Law_law 530 = some (.iaload, 531, []) := (congrArg (fun t => fxl t 530) e_152).trans rfl
theorem f_Law_law_531 : fx n_Law_law 531 = some (.aload_n 0, 532, []) := (congrArg (fun t => fxl t 531) e_152).trans rfl
theorem f_Law_law_532 : fx n_Law_law 532 = some (.iload_n 3, 533, []) := (congrArg (fun t => fxl t 532) e_152).trans rfl
theorem f_Law_law_533 : fx n_Law_law 533 = some (.iconst 2, 534, []) := (congrArg (fun t => fxl t 533) e_152).trans rfl
theorem f_Law_law_534 : fx n_Law_law 534 = some (.iadd, 535, []) := (congrArg (fun t => fxl t 534) e_152).trans rfl
theorem f_Law_law_535 : fx n_Law_law 535 = some (.iaload, 536, []) := (congrArg (fun t => fxl t 535) e_152).trans rfl
theorem f_Law_law_536 : fx n_Law_law 536 = some (.invokevirtual 77, 539, [65, 2]) := (congrArg (fun t => fxl t 536) e_152).trans rfl
theorem f_Law_law_539 : fx n_Law_law 539 = some (.aload_n 2, 540, []) := (congrArg (fun t => fxl t 539) e_152).trans rfl
theorem f_Law_law_540 : fx n_Law_law 540 = some (.aload_n 0, 541, []) := (congrArg (fun t => fxl t 540) e_152).trans rfl
theorem f_Law_law_541 : fx n_Law_law 541 = some (.iload_n 3, 542, []) := (congrArg (fun t => fxl t 541) e_152).trans rfl
theorem f_Law_law_542 : fx n_Law_law 542 = some (.iconst 1, 543, []) := (congrArg (fun t => fxl t 542) e_152).trans rfl
theorem f_Law_law_543 : fx n_Law_law 543 = some (.iadd, 544, []) := (congrArg (fun t => fxl t 543) e_152).trans rfl
theorem f_Law_law_544 : fx n_Law_law 544 = some (.iaload, 545, []) := (congrArg (fun t => fxl t 544) e_152).trans rfl
theorem f_Law_law_545 : fx n_Law_law 545 = some (.aload_n 0, 546, []) := (congrArg (fun t => fxl t 545) e_152).trans rfl
theorem f_Law_law_546 : fx n_Law_law 546 = some (.iload_n 3, 547, []) := (congrArg (fun t => fxl t 546) e_152).trans rfl
theorem f_Law_law_547 : fx n_Law_law 547 = some (.iconst 2, 548, []) := (congrArg (fun t => fxl t 547) e_152).trans rfl
theorem f_Law_law_548 : fx n_Law_law 548 = some (.iadd, 549, []) := (congrArg (fun t => fxl t 548) e_152).trans rfl
theorem f_Law_law_549 : fx n_Law_law 549 = some (.iaload, 550, []) := (congrArg (fun t => fxl t 549) e_152).trans rfl
theorem f_Law_law_550 : fx n_Law_law 550 = some (.invokevirtual 80, 553, [134, 2]) := (congrArg (fun t => fxl t 550) e_152).trans rfl
theorem f_Law_law_553 : fx n_Law_law 553 = some (.if_icmp .eq 183, 556, [736]) := (congrArg (fun t => fxl t 553) e_152).trans rfl
theorem f_Law_law_556 : fx n_Law_law 556 = some (.iconst 0, 557, []) := (congrArg (fun t => fxl t 556) e_152).trans rfl
theorem f_Law_law_557 : fx n_Law_law 557 = some (.ireturn, 558, []) := (congrArg (fun t => fxl t 557) e_152).trans rfl
theorem f_Law_law_558 : fx n_Law_law 558 = some (.aload_n 1, 559, []) := (congrArg (fun t => fxl t 558) e_152).trans rfl
theorem f_Law_law_559 : fx n_Law_law 559 = some (.aload_n 0, 560, []) := (congrArg (fun t => fxl t 559) e_152).trans rfl
theorem f_Law_law_560 : fx n_Law_law 560 = some (.iload_n 3, 561, []) := (congrArg (fun t => fxl t 560) e_152).trans rfl
theorem f_Law_law_561 : fx n_Law_law 561 = some (.iconst 1, 562, []) := (congrArg (fun t => fxl t 561) e_152).trans rfl
theorem f_Law_law_562 : fx n_Law_law 562 = some (.iadd, 563, []) := (congrArg (fun t => fxl t 562) e_152).trans rfl
theorem f_Law_law_563 : fx n_Law_law 563 = some (.iaload, 564, []) := (congrArg (fun t => fxl t 563) e_152).trans rfl
theorem f_Law_law_564 : fx n_Law_law 564 = some (.aload_n 0, 565, []) := (congrArg (fun t => fxl t 564) e_152).trans rfl
theorem f_Law_law_565 : fx n_Law_law 565 = some (.iload_n 3, 566, []) := (congrArg (fun t => fxl t 565) e_152).trans rfl
theorem f_Law_law_566 : fx n_Law_law 566 = some (.iconst 2, 567, []) := (congrArg (fun t => fxl t 566) e_152).trans rfl
theorem f_Law_law_567 : fx n_Law_law 567 = some (.iadd, 568, []) := (congrArg (fun t => fxl t 567) e_152).trans rfl
theorem f_Law_law_568 : fx n_Law_law 568 = some (.iaload, 569, []) := (congrArg (fun t => fxl t 568) e_152).trans rfl
theorem f_Law_law_569 : fx n_Law_law 569 = some (.aload_n 0, 570, []) := (congrArg (fun t => fxl t 569) e_152).trans rfl
theorem f_Law_law_570 : fx n_Law_law 570 = some (.iload_n 3, 571, []) := (congrArg (fun t => fxl t 570) e_152).trans rfl
theorem f_Law_law_571 : fx n_Law_law 571 = some (.iconst 3, 572, []) := (congrArg (fun t => fxl t 571) e_152).trans rfl
theorem f_Law_law_572 : fx n_Law_law 572 = some (.iadd, 573, []) := (congrArg (fun t => fxl t 572) e_152).trans rfl
theorem f_Law_law_573 : fx n_Law_law 573 = some (.iaload, 574, []) := (congrArg (fun t => fxl t 573) e_152).trans rfl
theorem f_Law_law_574 : fx n_Law_law 574 = some (.ifCond .eq 7, 577, [581]) := (congrArg (fun t => fxl t 574) e_152).trans rfl
theorem f_Law_law_577 : fx n_Law_law 577 = some (.iconst 1, 578, []) := (congrArg (fun t => fxl t 577) e_152).trans rfl
theorem f_Law_law_578 : fx n_Law_law 578 = some (.goto 4, 581, [582]) := (congrArg (fun t => fxl t 578) e_152).trans rfl
theorem f_Law_law_581 : fx n_Law_law 581 = some (.iconst 0, 582, []) := (congrArg (fun t => fxl t 581) e_152).trans rfl
theorem f_Law_law_582 : fx n_Law_law 582 = some (.invokevirtual 81, 585, [66, 3]) := (congrArg (fun t => fxl t 582) e_152).trans rfl
theorem f_Law_law_585 : fx n_Law_law 585 = some (.aload_n 2, 586, []) := (congrArg (fun t => fxl t 585) e_152).trans rfl
theorem f_Law_law_586 : fx n_Law_law 586 = some (.aload_n 0, 587, []) := (congrArg (fun t => fxl t 586) e_152).trans rfl
theorem f_Law_law_587 : fx n_Law_law 587 = some (.iload_n 3, 588, []) := (congrArg (fun t => fxl t 587) e_152).trans rfl
theorem f_Law_law_588 : fx n_Law_law 588 = some (.iconst 1, 589, []) := (congrArg (fun t => fxl t 588) e_152).trans rfl
theorem f_Law_law_589 : fx n_Law_law 589 = some (.iadd, 590, []) := (congrArg (fun t => fxl t 589) e_152).trans rfl
theorem f_Law_law_590 : fx n_Law_law 590 = some (.iaload, 591, []) := (congrArg (fun t => fxl t 590) e_152).trans rfl
theorem f_Law_law_591 : fx n_Law_law 591 = some (.aload_n 0, 592, []) := (congrArg (fun t => fxl t 591) e_152).trans rfl
theorem f_Law_law_592 : fx n_Law_law 592 = some (.iload_n 3, 593, []) := (congrArg (fun t => fxl t 592) e_152).trans rfl
theorem f_Law_law_593 : fx n_Law_law 593 = some (.iconst 2, 594, []) := (congrArg (fun t => fxl t 593) e_152).trans rfl
theorem f_Law_law_594 : fx n_Law_law 594 = some (.iadd, 595, []) := (congrArg (fun t => fxl t 594) e_152).trans rfl
theorem f_Law_law_595 : fx n_Law_law 595 = some (.iaload, 596, []) := (congrArg (fun t => fxl t 595) e_152).trans rfl
theorem f_Law_law_596 : fx n_Law_law 596 = some (.aload_n 0, 597, []) := (congrArg (fun t => fxl t 596) e_152).trans rfl
theorem f_Law_law_597 : fx n_Law_law 597 = some (.iload_n 3, 598, []) := (congrArg (fun t => fxl t 597) e_152).trans rfl
theorem f_Law_law_598 : fx n_Law_law 598 = some (.iconst 3, 599, []) := (congrArg (fun t => fxl t 598) e_152).trans rfl
theorem f_Law_law_599 : fx n_Law_law 599 = some (.iadd, 600, []) := (congrArg (fun t => fxl t 599) e_152).trans rfl
theorem f_Law_law_600 : fx n_Law_law 600 = some (.iaload, 601, []) := (congrArg (fun t => fxl t 600) e_152).trans rfl
theorem f_Law_law_601 : fx n_Law_law 601 = some (.ifCond .eq 7, 604, [608]) := (congrArg (fun t => fxl t 601) e_152).trans rfl
theorem f_Law_law_604 : fx n_Law_law 604 = some (.iconst 1, 605, []) := (congrArg (fun t => fxl t 604) e_152).trans rfl
theorem f_Law_law_605 : fx n_Law_law 605 = some (.goto 4, 608, [609]) := (congrArg (fun t => fxl t 605) e_152).trans rfl
theorem f_Law_law_608 : fx n_Law_law 608 = some (.iconst 0, 609, []) := (congrArg (fun t => fxl t 608) e_152).trans rfl
theorem f_Law_law_609 : fx n_Law_law 609 = some (.invokevirtual 85, 612, [135, 3]) := (congrArg (fun t => fxl t 609) e_152).trans rfl
theorem f_Law_law_612 : fx n_Law_law 612 = some (.if_icmp .eq 124, 615, [736]) := (congrArg (fun t => fxl t 612) e_152).trans rfl
theorem f_Law_law_615 : fx n_Law_law 615 = some (.iconst 0, 616, []) := (congrArg (fun t => fxl t 615) e_152).trans rfl
theorem f_Law_law_616 : fx n_Law_law 616 = some (.ireturn, 617, []) := (congrArg (fun t => fxl t 616) e_152).trans rfl
theorem f_Law_law_617 : fx n_Law_law 617 = some (.aload_n 1, 618, []) := (congrArg (fun t => fxl t 617) e_152).trans rfl
theorem f_Law_law_618 : fx n_Law_law 618 = some (.invokevirtual 86, 621, [67, 0]) := (congrArg (fun t => fxl t 618) e_152).trans rfl
theorem f_Law_law_621 : fx n_Law_law 621 = some (.aload_n 2, 622, []) := (congrArg (fun t => fxl t 621) e_152).trans rfl
theorem f_Law_law_622 : fx n_Law_law 622 = some (.invokevirtual 89, 625, [136, 0]) := (congrArg (fun t => fxl t 622) e_152).trans rfl
theorem f_Law_law_625 : fx n_Law_law 625 = some (.if_icmp .eq 111, 628, [736]) := (congrArg (fun t => fxl t 625) e_152).trans rfl
theorem f_Law_law_628 : fx n_Law_law 628 = some (.iconst 0, 629, []) := (congrArg (fun t => fxl t 628) e_152).trans rfl
theorem f_Law_law_629 : fx n_Law_law 629 = some (.ireturn, 630, []) := (congrArg (fun t => fxl t 629) e_152).trans rfl
theorem f_Law_law_630 : fx n_Law_law 630 = some (.aload_n 1, 631, []) := (congrArg (fun t => fxl t 630) e_152).trans rfl
theorem f_Law_law_631 : fx n_Law_law 631 = some (.aload_n 0, 632, []) := (congrArg (fun t => fxl t 631) e_152).trans rfl
theorem f_Law_law_632 : fx n_Law_law 632 = some (.iload_n 3, 633, []) := (congrArg (fun t => fxl t 632) e_152).trans rfl
theorem f_Law_law_633 : fx n_Law_law 633 = some (.iconst 1, 634, []) := (congrArg (fun t => fxl t 633) e_152).trans rfl
theorem f_Law_law_634 : fx n_Law_law 634 = some (.iadd, 635, []) := (congrArg (fun t => fxl t 634) e_152).trans rfl
theorem f_Law_law_635 : fx n_Law_law 635 = some (.iaload, 636, []) := (congrArg (fun t => fxl t 635) e_152).trans rfl
theorem f_Law_law_636 : fx n_Law_law 636 = some (.aload_n 0, 637, []) := (congrArg (fun t => fxl t 636) e_152).trans rfl
theorem f_Law_law_637 : fx n_Law_law 637 = some (.iload_n 3, 638, []) := (congrArg (fun t => fxl t 637) e_152).trans rfl
theorem f_Law_law_638 : fx n_Law_law 638 = some (.iconst 2, 639, []) := (congrArg (fun t => fxl t 638) e_152).trans rfl
theorem f_Law_law_639 : fx n_Law_law 639 = some (.iadd, 640, []) := (congrArg (fun t => fxl t 639) e_152).trans rfl
theorem f_Law_law_640 : fx n_Law_law 640 = some (.iaload, 641, []) := (congrArg (fun t => fxl t 640) e_152).trans rfl
theorem f_Law_law_641 : fx n_Law_law 641 = some (.aload_n 0, 642, []) := (congrArg (fun t => fxl t 641) e_152).trans rfl
theorem f_Law_law_642 : fx n_Law_law 642 = some (.iload_n 3, 643, []) := (congrArg (fun t => fxl t 642) e_152).trans rfl
theorem f_Law_law_643 : fx n_Law_law 643 = some (.iconst 3, 644, []) := (congrArg (fun t => fxl t 643) e_152).trans rfl
theorem f_Law_law_644 : fx n_Law_law 644 = some (.iadd, 645, []) := (congrArg (fun t => fxl t 644) e_152).trans rfl
theorem f_Law_law_645 : fx n_Law_law 645 = some (.iaload, 646, []) := (congrArg (fun t => fxl t 645) e_152).trans rfl
theorem f_Law_law_646 : fx n_Law_law 646 = some (.invokevirtual 90, 649, [68, 3]) := (congrArg (fun t => fxl t 646) e_152).trans rfl
theorem f_Law_law_649 : fx n_Law_law 649 = some (.aload_n 2, 650, []) := (congrArg (fun t => fxl t 649) e_152).trans rfl
theorem f_Law_law_650 : fx n_Law_law 650 = some (.aload_n 0, 651, []) := (congrArg (fun t => fxl t 650) e_152).trans rfl
theorem f_Law_law_651 : fx n_Law_law 651 = some (.iload_n 3, 652, []) := (congrArg (fun t => fxl t 651) e_152).trans rfl
theorem f_Law_law_652 : fx n_Law_law 652 = some (.iconst 1, 653, []) := (congrArg (fun t => fxl t 652) e_152).trans rfl
theorem f_Law_law_653 : fx n_Law_law 653 = some (.iadd, 654, []) := (congrArg (fun t => fxl t 653) e_152).trans rfl
theorem f_Law_law_654 : fx n_Law_law 654 = some (.iaload, 655, []) := (congrArg (fun t => fxl t 654) e_152).trans rfl
theorem f_Law_law_655 : fx n_Law_law 655 = some (.aload_n 0, 656, []) := (congrArg (fun t => fxl t 655) e_152).trans rfl
theorem f_Law_law_656 : fx n_Law_law 656 = some (.iload_n 3, 657, []) := (congrArg (fun t => fxl t 656) e_152).trans rfl
theorem f_Law_law_657 : fx n_Law_law 657 = some (.iconst 2, 658, []) := (congrArg (fun t => fxl t 657) e_152).trans rfl
theorem f_Law_law_658 : fx n_Law_law 658 = some (.iadd, 659, []) := (congrArg (fun t => fxl t 658) e_152).trans rfl
theorem f_Law_law_659 : fx n_Law_law 659 = some (.iaload, 660, []) := (congrArg (fun t => fxl t 659) e_152).trans rfl
theorem f_Law_law_660 : fx n_Law_law 660 = some (.aload_n 0, 661, []) := (congrArg (fun t => fxl t 660) e_152).trans rfl
theorem f_Law_law_661 : fx n_Law_law 661 = some (.iload_n 3, 662, []) := (congrArg (fun t => fxl t 661) e_152).trans rfl
theorem f_Law_law_662 : fx n_Law_law 662 = some (.iconst 3, 663, []) := (congrArg (fun t => fxl t 662) e_152).trans rfl
theorem f_Law_law_663 : fx n_Law_law 663 = some (.iadd, 664, []) := (congrArg (fun t => fxl t 663) e_152).trans rfl
theorem f_Law_law_664 : fx n_Law_law 664 = some (.iaload, 665, []) := (congrArg (fun t => fxl t 664) e_152).trans rfl
theorem f_Law_law_665 : fx n_Law_law 665 = some (.invokevirtual 93, 668, [141, 3]) := (congrArg (fun t => fxl t 665) e_152).trans rfl
theorem f_Law_law_668 : fx n_Law_law 668 = some (.if_icmp .eq 68, 671, [736]) := (congrArg (fun t => fxl t 668) e_152).trans rfl
theorem f_Law_law_671 : fx n_Law_law 671 = some (.iconst 0, 672, []) := (congrArg (fun t => fxl t 671) e_152).trans rfl
theorem f_Law_law_672 : fx n_Law_law 672 = some (.ireturn, 673, []) := (congrArg (fun t => fxl t 672) e_152).trans rfl
theorem f_Law_law_673 : fx n_Law_law 673 = some (.aload_n 1, 674, []) := (congrArg (fun t => fxl t 673) e_152).trans rfl
theorem f_Law_law_674 : fx n_Law_law 674 = some (.invokevirtual 94, 677, [69, 0]) := (congrArg (fun t => fxl t 674) e_152).trans rfl
theorem f_Law_law_677 : fx n_Law_law 677 = some (.aload_n 2, 678, []) := (congrArg (fun t => fxl t 677) e_152).trans rfl
theorem f_Law_law_678 : fx n_Law_law 678 = some (.invokevirtual 97, 681, [142, 0]) := (congrArg (fun t => fxl t 678) e_152).trans rfl
theorem f_Law_law_681 : fx n_Law_law 681 = some (.if_icmp .eq 55, 684, [736]) := (congrArg (fun t => fxl t 681) e_152).trans rfl
theorem f_Law_law_684 : fx n_Law_law 684 = some (.iconst 0, 685, []) := (congrArg (fun t => fxl t 684) e_152).trans rfl
theorem f_Law_law_685 : fx n_Law_law 685 = some (.ireturn, 686, []) := (congrArg (fun t => fxl t 685) e_152).trans rfl
theorem f_Law_law_686 : fx n_Law_law 686 = some (.aload_n 1, 687, []) := (congrArg (fun t => fxl t 686) e_152).trans rfl
theorem f_Law_law_687 : fx n_Law_law 687 = some (.invokevirtual 98, 690, [70, 0]) := (congrArg (fun t => fxl t 687) e_152).trans rfl
theorem f_Law_law_690 : fx n_Law_law 690 = some (.aload_n 2, 691, []) := (congrArg (fun t => fxl t 690) e_152).trans rfl
theorem f_Law_law_691 : fx n_Law_law 691 = some (.invokevirtual 101, 694, [143, 0]) := (congrArg (fun t => fxl t 691) e_152).trans rfl
theorem f_Law_law_694 : fx n_Law_law 694 = some (.if_icmp .eq 42, 697, [736]) := (congrArg (fun t => fxl t 694) e_152).trans rfl
theorem f_Law_law_697 : fx n_Law_law 697 = some (.iconst 0, 698, []) := (congrArg (fun t => fxl t 697) e_152).trans rfl
theorem f_Law_law_698 : fx n_Law_law 698 = some (.ireturn, 699, []) := (congrArg (fun t => fxl t 698) e_152).trans rfl
theorem f_Law_law_699 : fx n_Law_law 699 = some (.aload_n 1, 700, []) := (congrArg (fun t => fxl t 699) e_152).trans rfl
theorem f_Law_law_700 : fx n_Law_law 700 = some (.aload_n 0, 701, []) := (congrArg (fun t => fxl t 700) e_152).trans rfl
theorem f_Law_law_701 : fx n_Law_law 701 = some (.iload_n 3, 702, []) := (congrArg (fun t => fxl t 701) e_152).trans rfl
theorem f_Law_law_702 : fx n_Law_law 702 = some (.iconst 1, 703, []) := (congrArg (fun t => fxl t 702) e_152).trans rfl
theorem f_Law_law_703 : fx n_Law_law 703 = some (.iadd, 704, []) := (congrArg (fun t => fxl t 703) e_152).trans rfl
theorem f_Law_law_704 : fx n_Law_law 704 = some (.iaload, 705, []) := (congrArg (fun t => fxl t 704) e_152).trans rfl
theorem f_Law_law_705 : fx n_Law_law 705 = some (.invokevirtual 102, 708, [71, 1]) := (congrArg (fun t => fxl t 705) e_152).trans rfl
theorem f_Law_law_708 : fx n_Law_law 708 = some (.aload_n 2, 709, []) := (congrArg (fun t => fxl t 708) e_152).trans rfl
theorem f_Law_law_709 : fx n_Law_law 709 = some (.aload_n 0, 710, []) := (congrArg (fun t => fxl t 709) e_152).trans rfl
theorem f_Law_law_710 : fx n_Law_law 710 = some (.iload_n 3, 711, []) := (congrArg (fun t => fxl t 710) e_152).trans rfl
theorem f_Law_law_711 : fx n_Law_law 711 = some (.iconst 1, 712, []) := (congrArg (fun t => fxl t 711) e_152).trans rfl
theorem f_Law_law_712 : fx n_Law_law 712 = some (.iadd, 713, []) := (congrArg (fun t => fxl t 712) e_152).trans rfl
theorem f_Law_law_713 : fx n_Law_law 713 = some (.iaload, 714, []) := (congrArg (fun t => fxl t 713) e_152).trans rfl
theorem f_Law_law_714 : fx n_Law_law 714 = some (.invokevirtual 105, 717, [146, 1]) := (congrArg (fun t => fxl t 714) e_152).trans rfl
theorem f_Law_law_717 : fx n_Law_law 717 = some (.if_icmp .eq 19, 720, [736]) := (congrArg (fun t => fxl t 717) e_152).trans rfl
theorem f_Law_law_720 : fx n_Law_law 720 = some (.iconst 0, 721, []) := (congrArg (fun t => fxl t 720) e_152).trans rfl
theorem f_Law_law_721 : fx n_Law_law 721 = some (.ireturn, 722, []) := (congrArg (fun t => fxl t 721) e_152).trans rfl
theorem f_Law_law_722 : fx n_Law_law 722 = some (.aload_n 1, 723, []) := (congrArg (fun t => fxl t 722) e_152).trans rfl
theorem f_Law_law_723 : fx n_Law_law 723 = some (.invokevirtual 106, 726, [72, 0]) := (congrArg (fun t => fxl t 723) e_152).trans rfl
theorem f_Law_law_726 : fx n_Law_law 726 = some (.aload_n 2, 727, []) := (congrArg (fun t => fxl t 726) e_152).trans rfl
theorem f_Law_law_727 : fx n_Law_law 727 = some (.invokevirtual 110, 730, [150, 0]) := (congrArg (fun t => fxl t 727) e_152).trans rfl
theorem f_Law_law_730 : fx n_Law_law 730 = some (.lcmp, 731, []) := (congrArg (fun t => fxl t 730) e_152).trans rfl
theorem f_Law_law_731 : fx n_Law_law 731 = some (.ifCond .eq 5, 734, [736]) := (congrArg (fun t => fxl t 731) e_152).trans rfl
theorem f_Law_law_734 : fx n_Law_law 734 = some (.iconst 0, 735, []) := (congrArg (fun t => fxl t 734) e_152).trans rfl
theorem f_Law_law_735 : fx n_Law_law 735 = some (.ireturn, 736, []) := (congrArg (fun t => fxl t 735) e_152).trans rfl
theorem f_Law_law_736 : fx n_Law_law 736 = some (.iinc 3 4, 739, []) := (congrArg (fun t => fxl t 736) e_152).trans rfl
theorem f_Law_law_739 : fx n_Law_law 739 = some (.goto (-721), 742, [18]) := (congrArg (fun t => fxl t 739) e_152).trans rfl
theorem f_Law_law_742 : fx n_Law_law 742 = some (.iconst 1, 743, []) := (congrArg (fun t => fxl t 742) e_152).trans rfl
theorem f_Law_law_743 : fx n_Law_law 743 = some (.ireturn, 744, []) := (congrArg (fun t => fxl t 743) e_152).trans rfl

theorem dX4_count_10 : decode cX4_count 10 = .ok (.new 30, 3) := by decide +kernel
theorem dX4_count_13 : decode cX4_count 13 = .ok (.dup, 1) := by decide +kernel
theorem dX4_count_14 : decode cX4_count 14 = .ok (.ldc 182, 2) := by decide +kernel
theorem dX4_count_16 : decode cX4_count 16 = .ok (.invokespecial 34, 3) := by decide +kernel
theorem dX4_count_19 : decode cX4_count 19 = .ok (.athrow, 1) := by decide +kernel
theorem dX4_count_20 : decode cX4_count 20 = .ok (.aload_n 0, 1) := by decide +kernel
theorem dX4_count_21 : decode cX4_count 21 = .ok (.iload_n 1, 1) := by decide +kernel
theorem dX4_count_22 : decode cX4_count 22 = .ok (.invokevirtual 184, 3) := by decide +kernel
theorem dX4_count_25 : decode cX4_count 25 = .ok (.ireturn, 1) := by decide +kernel
set_option maxRecDepth 20000 in
theorem ggX4_bears_X4_isSection : GoodIn wsX4_bears wsX4_isSection := goodIn_r _ [14, 15, 16, 13, 17] (by decide +kernel) (by decide +kernel)
set_option maxRecDepth 20000 in
theorem gX4_bears_X4_isSection : GoodIn wsX4_bears (va_wsS RX4 67 yX4_isSection wsX4_isSection) := goodIn_app (goodIn_of _ (by decide +kernel)) ggX4_bears_X4_isSection
set_option maxRecDepth 20000 in
theorem ggX4_bears_X1_mostBorneBetween : GoodIn wsX4_bears wsX1_mostBorneBetween := goodIn_r _ [21, 22, 9, 6, 10, 23, 5, 7, 24, 25, 26, 19, 27, 28, 29, 30, 31, 32, 33, 34, 13, 35, 45, 46] (by decide +kernel) (by decide +kernel)
set_option maxRecDepth 20000 in
theorem gX4_bears_X1_mostBorneBetween_n193 : GoodIn wsX4_bears (wsX1_mostBorneBetween) := ggX4_bears_X1_mostBorneBetween
theorem dX4_bears_0 : decode cX4_bears 0 = .ok (.iload_n 1, 1) := by decide +kernel
theorem dX4_bears_1 : decode cX4_bears 1 = .ok (.invokestatic 67, 3) := by decide +kernel
theorem dX4_bears_4 : decode cX4_bears 4 = .ok (.ifCond .eq 10, 3) := by decide +kernel
theorem dX4_bears_7 : decode cX4_bears 7 = .ok (.iload_n 2, 1) := by decide +kernel
theorem dX4_bears_8 : decode cX4_bears 8 = .ok (.invokestatic 67, 3) := by decide +kernel
theorem dX4_bears_11 : decode cX4_bears 11 = .ok (.ifCond .ne 13, 3) := by decide +kernel
theorem dX4_bears_14 : decode cX4_bears 14 = .ok (.new 30, 3) := by decide +kernel
theorem dX4_bears_17 : decode cX4_bears 17 = .ok (.dup, 1) := by decide +kernel
theorem dX4_bears_18 : decode cX4_bears 18 = .ok (.ldc 71, 2) := by decide +kernel
theorem dX4_bears_20 : decode cX4_bears 20 = .ok (.invokespecial 34, 3) := by decide +kernel
theorem dX4_bears_23 : decode cX4_bears 23 = .ok (.athrow, 1) := by decide +kernel
theorem dX4_bears_24 : decode cX4_bears 24 = .ok (.aload_n 0, 1) := by decide +kernel
theorem dX4_bears_25 : decode cX4_bears 25 = .ok (.getfield 12, 3) := by decide +kernel
theorem dX4_bears_28 : decode cX4_bears 28 = .ok (.getfield 58, 3) := by decide +kernel
theorem dX4_bears_31 : decode cX4_bears 31 = .ok (.iload_n 1, 1) := by decide +kernel
theorem dX4_bears_32 : decode cX4_bears 32 = .ok (.iload_n 2, 1) := by decide +kernel
theorem dX4_bears_33 : decode cX4_bears 33 = .ok (.invokestatic 187, 3) := by decide +kernel
theorem dX4_bears_36 : decode cX4_bears 36 = .ok (.iload_n 1, 1) := by decide +kernel
theorem dX4_bears_37 : decode cX4_bears 37 = .ok (.iload_n 2, 1) := by decide +kernel
theorem dX4_bears_38 : decode cX4_bears 38 = .ok (.invokestatic 190, 3) := by decide +kernel
theorem dX4_bears_41 : decode cX4_bears 41 = .ok (.invokevirtual 193, 3) := by decide +kernel
theorem dX4_bears_44 : decode cX4_bears 44 = .ok (.ireturn, 1) := by decide +kernel
set_option maxRecDepth 20000 in
theorem ggX4_arrives_X0_has : GoodIn wsX4_arrives wsX0_has := goodIn_r _ [8, 9, 10, 11, 12, 119, 120, 121, 122, 123, 124, 125, 126, 127, 128] (by decide +kernel) (by decide +kernel)
set_option maxRecDepth 20000 in
theorem gX4_arrives_X0_has_n117 : GoodIn wsX4_arrives (wsX0_has) := ggX4_arrives_X0_has
set_option maxRecDepth 20000 in
theorem ggX4_arrives_X2_become : GoodIn wsX4_arrives wsX2_become := goodIn_r _ [16, 17, 18, 19, 20, 21, 22, 23, 24, 25, 26, 27, 28, 29, 30, 31, 32, 33, 34, 6, 35, 36, 9, 37, 38, 39, 40, 41, 42, 43, 44, 45, 46, 113, 114, 115, 116, 117, 118, 129, 130, 119, 120, 121, 122, 123, 124, 125, 126, 127, 128] (by decide +kernel) (by decide +kernel)
set_option maxRecDepth 20000 in
theorem gX4_arrives_X2_become_n196 : GoodIn wsX4_arrives (wsX2_become) := ggX4_arrives_X2_become
set_option maxRecDepth 20000 in
theorem ggX4_arrives_X2_hoursTillArrival : GoodIn wsX4_arrives wsX2_hoursTillArrival := goodIn_r _ [49, 26, 50, 6, 51, 52, 41, 43, 53, 54, 55, 14, 56, 17, 25, 19, 18, 57, 58, 59, 60, 61, 28, 62, 63, 31, 64, 65, 66, 67, 68, 69, 70, 33, 71, 72, 73, 74, 75, 76, 77, 78, 11, 79, 80, 81, 82, 83, 84, 85, 86, 87, 88, 89, 90, 37, 39, 91, 92, 93, 94, 95, 96, 97, 98, 99, 100, 101, 102, 103, 104, 105, 106, 107, 108, 24, 109, 113, 114, 115, 116, 117, 118, 119, 120, 121, 122, 123, 124, 125, 126, 127, 128, 129, 130] (by decide +kernel) (by decide +kernel)
set_option maxRecDepth 20000 in
theorem gX4_arrives_X2_hoursTillArrival_n200 : GoodIn wsX4_arrives (wsX2_hoursTillArrival) := ggX4_arrives_X2_hoursTillArrival
theorem dX4_arrives_0 : decode cX4_arrives 0 = .ok (.aload_n 0, 1) := by decide +kernel
theorem dX4_arrives_1 : decode cX4_arrives 1 = .ok (.getfield 12, 3) := by decide +kernel
theorem dX4_arrives_4 : decode cX4_arrives 4 = .ok (.getfield 88, 3) := by decide +kernel
theorem dX4_arrives_7 : decode cX4_arrives 7 = .ok (.iload_n 1, 1) := by decide +kernel
theorem dX4_arrives_8 : decode cX4_arrives 8 = .ok (.invokevirtual 117, 3) := by decide +kernel
theorem dX4_arrives_11 : decode cX4_arrives 11 = .ok (.ifCond .ne 13, 3) := by decide +kernel
theorem dX4_arrives_14 : decode cX4_arrives 14 = .ok (.new 30, 3) := by decide +kernel
theorem dX4_arrives_17 : decode cX4_arrives 17 = .ok (.dup, 1) := by decide +kernel
theorem dX4_arrives_18 : decode cX4_arrives 18 = .ok (.ldc 139, 2) := by decide +kernel
theorem dX4_arrives_20 : decode cX4_arrives 20 = .ok (.invokespecial 34, 3) := by decide +kernel
theorem dX4_arrives_23 : decode cX4_arrives 23 = .ok (.athrow, 1) := by decide +kernel
theorem dX4_arrives_24 : decode cX4_arrives 24 = .ok (.aload_n 0, 1) := by decide +kernel
theorem dX4_arrives_25 : decode cX4_arrives 25 = .ok (.getfield 16, 3) := by decide +kernel
theorem dX4_arrives_28 : decode cX4_arrives 28 = .ok (.aload_n 0, 1) := by decide +kernel
theorem dX4_arrives_29 : decode cX4_arrives 29 = .ok (.getfield 12, 3) := by decide +kernel
theorem dX4_arrives_32 : decode cX4_arrives 32 = .ok (.invokevirtual 196, 3) := by decide +kernel
theorem dX4_arrives_35 : decode cX4_arrives 35 = .ok (.aload_n 0, 1) := by decide +kernel
theorem dX4_arrives_36 : decode cX4_arrives 36 = .ok (.getfield 16, 3) := by decide +kernel
theorem dX4_arrives_39 : decode cX4_arrives 39 = .ok (.iload_n 1, 1) := by decide +kernel
theorem dX4_arrives_40 : decode cX4_arrives 40 = .ok (.invokevirtual 200, 3) := by decide +kernel
theorem dX4_arrives_43 : decode cX4_arrives 43 = .ok (.ireturn, 1) := by decide +kernel
set_option maxRecDepth 20000 in
theorem ggX4_best_X0_has : GoodIn wsX4_best wsX0_has := goodIn_r _ [8, 9, 10, 11, 12, 119, 120, 121, 122, 123, 124, 125, 126, 127, 128] (by decide +kernel) (by decide +kernel)
set_option maxRecDepth 20000 in
theorem gX4_best_X0_has_n117 : GoodIn wsX4_best (wsX0_has) := ggX4_best_X0_has
set_option maxRecDepth 20000 in
theorem ggX4_best_X2_become : GoodIn wsX4_best wsX2_become := goodIn_r _ [16, 17, 18, 19, 20, 21, 22, 23, 24, 25, 26, 27, 28, 29, 30, 31, 32, 33, 34, 6, 35, 36, 9, 37, 38, 39, 40, 41, 42, 43, 44, 45, 46, 113, 114, 115, 116, 117, 118, 129, 130, 119, 120, 121, 122, 123, 124, 125, 126, 127, 128] (by decide +kernel) (by decide +kernel)
set_option maxRecDepth 20000 in
theorem gX4_best_X2_become_n196 : GoodIn wsX4_best (wsX2_become) := ggX4_best_X2_become
set_option maxRecDepth 20000 in
theorem ggX4_best_X2_hoursTillArrival : GoodIn wsX4_best wsX2_hoursTillArrival := goodIn_r _ [49, 26, 50, 6, 51, 52, 41, 43, 53, 54, 55, 14, 56, 17, 25, 19, 18, 57, 58, 59, 60, 61, 28, 62, 63, 31, 64, 65, 66, 67, 68, 69, 70, 33, 71, 72, 73, 74, 75, 76, 77, 78, 11, 79, 80, 81, 82, 83, 84, 85, 86, 87, 88, 89, 90, 37, 39, 91, 92, 93, 94, 95, 96, 97, 98, 99, 100, 101, 102, 103, 104, 105, 106, 107, 108, 24, 109, 113, 114, 115, 116, 117, 118, 119, 120, 121, 122, 123, 124, 125, 126, 127, 128, 129, 130] (by decide +kernel) (by decide +kernel)
set_option maxRecDepth 20000 in
theorem gX4_best_X2_hoursTillArrival_n200 : GoodIn wsX4_best (wsX2_hoursTillArrival) := ggX4_best_X2_hoursTillArrival
theorem dX4_best_0 : decode cX4_best 0 = .ok (.aload_n 0, 1) := by decide +kernel
theorem dX4_best_1 : decode cX4_best 1 = .ok (.getfield 12, 3) := by decide +kernel
theorem dX4_best_4 : decode cX4_best 4 = .ok (.getfield 88, 3) := by decide +kernel
theorem dX4_best_7 : decode cX4_best 7 = .ok (.iload_n 1, 1) := by decide +kernel
theorem dX4_best_8 : decode cX4_best 8 = .ok (.invokevirtual 117, 3) := by decide +kernel
theorem dX4_best_11 : decode cX4_best 11 = .ok (.ifCond .ne 13, 3) := by decide +kernel
theorem dX4_best_14 : decode cX4_best 14 = .ok (.new 30, 3) := by decide +kernel
theorem dX4_best_17 : decode cX4_best 17 = .ok (.dup, 1) := by decide +kernel
theorem dX4_best_18 : decode cX4_best 18 = .ok (.ldc 139, 2) := by decide +kernel
theorem dX4_best_20 : decode cX4_best 20 = .ok (.invokespecial 34, 3) := by decide +kernel
theorem dX4_best_23 : decode cX4_best 23 = .ok (.athrow, 1) := by decide +kernel
theorem dX4_best_24 : decode cX4_best 24 = .ok (.bipush 20, 2) := by decide +kernel
theorem dX4_best_26 : decode cX4_best 26 = .ok (.istore_n 2, 1) := by decide +kernel
theorem dX4_best_27 : decode cX4_best 27 = .ok (.iload_n 2, 1) := by decide +kernel
theorem dX4_best_28 : decode cX4_best 28 = .ok (.ifCond .lt 47, 3) := by decide +kernel
theorem dX4_best_31 : decode cX4_best 31 = .ok (.aload_n 0, 1) := by decide +kernel
theorem dX4_best_32 : decode cX4_best 32 = .ok (.getfield 16, 3) := by decide +kernel
theorem dX4_best_35 : decode cX4_best 35 = .ok (.aload_n 0, 1) := by decide +kernel
theorem dX4_best_36 : decode cX4_best 36 = .ok (.getfield 12, 3) := by decide +kernel
theorem dX4_best_39 : decode cX4_best 39 = .ok (.invokevirtual 196, 3) := by decide +kernel
theorem dX4_best_42 : decode cX4_best 42 = .ok (.aload_n 0, 1) := by decide +kernel
theorem dX4_best_43 : decode cX4_best 43 = .ok (.getfield 16, 3) := by decide +kernel
theorem dX4_best_46 : decode cX4_best 46 = .ok (.getfield 88, 3) := by decide +kernel
theorem dX4_best_49 : decode cX4_best 49 = .ok (.getfield 143, 3) := by decide +kernel
theorem dX4_best_52 : decode cX4_best 52 = .ok (.iload_n 1, 1) := by decide +kernel
theorem dX4_best_53 : decode cX4_best 53 = .ok (.iload_n 2, 1) := by decide +kernel
theorem dX4_best_54 : decode cX4_best 54 = .ok (.iastore, 1) := by decide +kernel
theorem dX4_best_55 : decode cX4_best 55 = .ok (.aload_n 0, 1) := by decide +kernel
theorem dX4_best_56 : decode cX4_best 56 = .ok (.getfield 16, 3) := by decide +kernel
theorem dX4_best_59 : decode cX4_best 59 = .ok (.iload_n 1, 1) := by decide +kernel
theorem dX4_best_60 : decode cX4_best 60 = .ok (.invokevirtual 200, 3) := by decide +kernel
theorem dX4_best_63 : decode cX4_best 63 = .ok (.iconst (-1), 1) := by decide +kernel
theorem dX4_best_64 : decode cX4_best 64 = .ok (.if_icmp .eq 5, 3) := by decide +kernel
theorem dX4_best_67 : decode cX4_best 67 = .ok (.iload_n 2, 1) := by decide +kernel
theorem dX4_best_68 : decode cX4_best 68 = .ok (.ireturn, 1) := by decide +kernel
theorem dX4_best_69 : decode cX4_best 69 = .ok (.iinc 2 (-1), 3) := by decide +kernel
theorem dX4_best_72 : decode cX4_best 72 = .ok (.goto (-45), 3) := by decide +kernel
theorem dX4_best_75 : decode cX4_best 75 = .ok (.iconst (-1), 1) := by decide +kernel
theorem dX4_best_76 : decode cX4_best 76 = .ok (.ireturn, 1) := by decide +kernel
set_option maxRecDepth 20000 in
theorem ggX4_thaw_X2_hasThawed : GoodIn wsX4_thaw wsX2_hasThawed := goodIn_r _ [6, 7, 106, 107, 108, 109, 110, 111] (by decide +kernel) (by decide +kernel)
set_option maxRecDepth 20000 in
theorem gX4_thaw_X2_hasThawed_n163 : GoodIn wsX4_thaw (wsX2_hasThawed) := ggX4_thaw_X2_hasThawed
set_option maxRecDepth 20000 in
theorem ggX4_thaw_X2_become : GoodIn wsX4_thaw wsX2_become := goodIn_r _ [10, 11, 7, 12, 13, 14, 15, 16, 17, 18, 19, 20, 21, 22, 23, 24, 25, 26, 27, 28, 29, 30, 31, 32, 33, 34, 35, 36, 37, 38, 39, 40, 41, 106, 107, 108, 109, 110, 111, 112, 113, 114, 115, 116, 117, 118, 119, 120, 121, 122, 123] (by decide +kernel) (by decide +kernel)
set_option maxRecDepth 20000 in
theorem gX4_thaw_X2_become_n196 : GoodIn wsX4_thaw (wsX2_become) := ggX4_thaw_X2_become
set_option maxRecDepth 20000 in
theorem ggX4_thaw_X2_dayOfThaw : GoodIn wsX4_thaw wsX2_dayOfThaw := goodIn_r _ [44, 7, 45, 3, 5, 4, 6, 46, 47, 48, 49, 11, 18, 12, 19, 50, 51, 52, 53, 54, 21, 55, 56, 24, 57, 58, 59, 60, 61, 62, 63, 26, 64, 65, 66, 67, 68, 69, 70, 71, 72, 73, 74, 75, 76, 77, 78, 28, 79, 80, 32, 34, 81, 82, 83, 36, 38, 84, 85, 86, 87, 88, 89, 90, 91, 92, 93, 94, 95, 96, 97, 98, 99, 100, 101, 17, 102, 106, 107, 108, 109, 110, 111, 114, 115, 116, 117, 118, 119, 120, 121, 122, 123, 112, 113] (by decide +kernel) (by decide +kernel)
set_option maxRecDepth 20000 in
theorem gX4_thaw_X2_dayOfThaw_n206 : GoodIn wsX4_thaw (wsX2_dayOfThaw) := ggX4_thaw_X2_dayOfThaw
theorem dX4_thaw_0 : decode cX4_thaw 0 = .ok (.aload_n 0, 1) := by decide +kernel
theorem dX4_thaw_1 : decode cX4_thaw 1 = .ok (.getfield 12, 3) := by decide +kernel
theorem dX4_thaw_4 : decode cX4_thaw 4 = .ok (.invokevirtual 163, 3) := by decide +kernel
theorem dX4_thaw_7 : decode cX4_thaw 7 = .ok (.ifCond .eq 11, 3) := by decide +kernel
theorem dX4_thaw_10 : decode cX4_thaw 10 = .ok (.aload_n 0, 1) := by decide +kernel
theorem dX4_thaw_11 : decode cX4_thaw 11 = .ok (.getfield 12, 3) := by decide +kernel
theorem dX4_thaw_14 : decode cX4_thaw 14 = .ok (.getfield 203, 3) := by decide +kernel
theorem dX4_thaw_17 : decode cX4_thaw 17 = .ok (.ireturn, 1) := by decide +kernel
theorem dX4_thaw_18 : decode cX4_thaw 18 = .ok (.aload_n 0, 1) := by decide +kernel
theorem dX4_thaw_19 : decode cX4_thaw 19 = .ok (.getfield 16, 3) := by decide +kernel
theorem dX4_thaw_22 : decode cX4_thaw 22 = .ok (.aload_n 0, 1) := by decide +kernel
theorem dX4_thaw_23 : decode cX4_thaw 23 = .ok (.getfield 12, 3) := by decide +kernel
theorem dX4_thaw_26 : decode cX4_thaw 26 = .ok (.invokevirtual 196, 3) := by decide +kernel
theorem dX4_thaw_29 : decode cX4_thaw 29 = .ok (.aload_n 0, 1) := by decide +kernel
theorem dX4_thaw_30 : decode cX4_thaw 30 = .ok (.getfield 16, 3) := by decide +kernel
theorem dX4_thaw_33 : decode cX4_thaw 33 = .ok (.invokevirtual 206, 3) := by decide +kernel
theorem dX4_thaw_36 : decode cX4_thaw 36 = .ok (.ireturn, 1) := by decide +kernel
set_option maxRecDepth 20000 in
theorem ggX4_mean_X1_inAll : GoodIn wsX4_mean wsX1_inAll := goodIn_r _ [6, 7, 17, 18] (by decide +kernel) (by decide +kernel)
set_option maxRecDepth 20000 in
theorem gX4_mean_X1_inAll_n209 : GoodIn wsX4_mean (wsX1_inAll) := ggX4_mean_X1_inAll
theorem dX4_mean_0 : decode cX4_mean 0 = .ok (.aload_n 0, 1) := by decide +kernel
theorem dX4_mean_1 : decode cX4_mean 1 = .ok (.getfield 12, 3) := by decide +kernel
theorem dX4_mean_4 : decode cX4_mean 4 = .ok (.getfield 58, 3) := by decide +kernel
theorem dX4_mean_7 : decode cX4_mean 7 = .ok (.invokevirtual 209, 3) := by decide +kernel
theorem dX4_mean_10 : decode cX4_mean 10 = .ok (.i2d, 1) := by decide +kernel
theorem dX4_mean_11 : decode cX4_mean 11 = .ok (.ldc2_w 212, 3) := by decide +kernel
theorem dX4_mean_14 : decode cX4_mean 14 = .ok (.ddiv, 1) := by decide +kernel
theorem dX4_mean_15 : decode cX4_mean 15 = .ok (.dreturn, 1) := by decide +kernel
set_option maxRecDepth 20000 in
theorem ggX4_digest_X4_counted : GoodIn wsX4_digest wsX4_counted := goodIn_r _ [6, 7, 8, 9, 10, 11, 12, 13, 14, 15, 16, 17, 18, 19, 20, 21, 22, 23, 24, 25, 26, 27, 28, 29, 30, 31, 32, 33, 34, 83, 84, 85, 86, 87, 88, 89, 90, 91, 92, 93, 94, 95, 96, 97, 98, 99, 100, 101, 102, 103, 104, 105, 106] (by decide +kernel) (by decide +kernel)
set_option maxRecDepth 20000 in
theorem gX4_digest_X4_counted : GoodIn wsX4_digest (wsV RX4 184 RX4 yX4_counted wsX4_counted) := goodIn_app (goodIn_of _ (by decide +kernel)) ggX4_digest_X4_counted
set_option maxRecDepth 20000 in
theorem ggX4_digest_X4_mixed : GoodIn wsX4_digest wsX4_mixed := goodIn_r _ [37, 38] (by decide +kernel) (by decide +kernel)
set_option maxRecDepth 20000 in
theorem gX4_digest_X4_mixed : GoodIn wsX4_digest (va_wsS RX4 216 yX4_mixed wsX4_mixed) := goodIn_app (goodIn_of _ (by decide +kernel)) ggX4_digest_X4_mixed
set_option maxRecDepth 20000 in
theorem ggX4_digest_X4_mixedWithRiver : GoodIn wsX4_digest wsX4_mixedWithRiver := goodIn_r _ [42, 7, 35, 36, 5, 37, 38, 83, 84, 85, 86, 87, 88, 89, 90, 91, 105, 106] (by decide +kernel) (by decide +kernel)
set_option maxRecDepth 20000 in
theorem gX4_digest_X4_mixedWithRiver : GoodIn wsX4_digest (wsV RX4 220 RX4 yX4_mixedWithRiver wsX4_mixedWithRiver) := goodIn_app (goodIn_of _ (by decide +kernel)) ggX4_digest_X4_mixedWithRiver
set_option maxRecDepth 20000 in
theorem ggX4_digest_X4_mixedWithCouriers : GoodIn wsX4_digest wsX4_mixedWithCouriers := goodIn_r _ [46, 7, 47, 10, 48, 49, 50, 51, 52, 53, 54, 55, 14, 56, 57, 35, 36, 5, 37, 38, 83, 84, 85, 86, 87, 88, 89, 90, 91, 92, 93, 94, 95, 96, 97, 98, 99, 100, 101] (by decide +kernel) (by decide +kernel)
set_option maxRecDepth 20000 in
theorem gX4_digest_X4_mixedWithCouriers : GoodIn wsX4_digest (wsV RX4 224 RX4 yX4_mixedWithCouriers wsX4_mixedWithCouriers) := goodIn_app (goodIn_of _ (by decide +kernel)) ggX4_digest_X4_mixedWithCouriers
set_option maxRecDepth 20000 in
theorem ggX4_digest_X4_mixedWithWagers : GoodIn wsX4_digest wsX4_mixedWithWagers := goodIn_r _ [61, 8, 35, 36, 5, 37, 38, 62, 63, 64, 65, 7, 66, 25, 67, 68, 69, 70, 30, 71, 72, 33, 73, 74, 75, 76, 77, 78, 79, 80, 81, 82, 29, 31, 32, 34, 83, 84, 85, 102, 103, 104, 86, 87, 88, 89, 90, 91] (by decide +kernel) (by decide +kernel)
set_option maxRecDepth 20000 in
theorem gX4_digest_X4_mixedWithWagers : GoodIn wsX4_digest (wsV RX4 227 RX4 yX4_mixedWithWagers wsX4_mixedWithWagers) := goodIn_app (goodIn_of _ (by decide +kernel)) ggX4_digest_X4_mixedWithWagers
theorem dX4_digest_0 : decode cX4_digest 0 = .ok (.ldc2_w 214, 3) := by decide +kernel
theorem dX4_digest_3 : decode cX4_digest 3 = .ok (.lstore_n 1, 1) := by decide +kernel
theorem dX4_digest_4 : decode cX4_digest 4 = .ok (.iconst 0, 1) := by decide +kernel
theorem dX4_digest_5 : decode cX4_digest 5 = .ok (.istore_n 3, 1) := by decide +kernel
theorem dX4_digest_6 : decode cX4_digest 6 = .ok (.iload_n 3, 1) := by decide +kernel
theorem dX4_digest_7 : decode cX4_digest 7 = .ok (.bipush 10, 2) := by decide +kernel
theorem dX4_digest_9 : decode cX4_digest 9 = .ok (.if_icmp .gt 19, 3) := by decide +kernel
theorem dX4_digest_12 : decode cX4_digest 12 = .ok (.lload_n 1, 1) := by decide +kernel
theorem dX4_digest_13 : decode cX4_digest 13 = .ok (.aload_n 0, 1) := by decide +kernel
theorem dX4_digest_14 : decode cX4_digest 14 = .ok (.iload_n 3, 1) := by decide +kernel
theorem dX4_digest_15 : decode cX4_digest 15 = .ok (.invokevirtual 184, 3) := by decide +kernel
theorem dX4_digest_18 : decode cX4_digest 18 = .ok (.invokestatic 216, 3) := by decide +kernel
theorem dX4_digest_21 : decode cX4_digest 21 = .ok (.lstore_n 1, 1) := by decide +kernel
theorem dX4_digest_22 : decode cX4_digest 22 = .ok (.iinc 3 1, 3) := by decide +kernel
theorem dX4_digest_25 : decode cX4_digest 25 = .ok (.goto (-19), 3) := by decide +kernel
theorem dX4_digest_28 : decode cX4_digest 28 = .ok (.aload_n 0, 1) := by decide +kernel
theorem dX4_digest_29 : decode cX4_digest 29 = .ok (.lload_n 1, 1) := by decide +kernel
theorem dX4_digest_30 : decode cX4_digest 30 = .ok (.invokevirtual 220, 3) := by decide +kernel
theorem dX4_digest_33 : decode cX4_digest 33 = .ok (.lstore_n 1, 1) := by decide +kernel
theorem dX4_digest_34 : decode cX4_digest 34 = .ok (.aload_n 0, 1) := by decide +kernel
theorem dX4_digest_35 : decode cX4_digest 35 = .ok (.lload_n 1, 1) := by decide +kernel
theorem dX4_digest_36 : decode cX4_digest 36 = .ok (.invokevirtual 224, 3) := by decide +kernel
theorem dX4_digest_39 : decode cX4_digest 39 = .ok (.lstore_n 1, 1) := by decide +kernel
theorem dX4_digest_40 : decode cX4_digest 40 = .ok (.aload_n 0, 1) := by decide +kernel
theorem dX4_digest_41 : decode cX4_digest 41 = .ok (.lload_n 1, 1) := by decide +kernel
theorem dX4_digest_42 : decode cX4_digest 42 = .ok (.invokevirtual 227, 3) := by decide +kernel
theorem dX4_digest_45 : decode cX4_digest 45 = .ok (.lreturn, 1) := by decide +kernel
set_option maxRecDepth 20000 in
theorem ggX4_counted_X0_numberWhose : GoodIn wsX4_counted wsX0_numberWhose := goodIn_r _ [6, 7, 8, 38, 39, 40, 41, 42, 43, 44, 45, 46, 47] (by decide +kernel) (by decide +kernel)
set_option maxRecDepth 20000 in
theorem gX4_counted_X0_numberWhose_n233 : GoodIn wsX4_counted (wsX0_numberWhose) := ggX4_counted_X0_numberWhose
set_option maxRecDepth 20000 in
theorem ggX4_counted_X1_cracksInAll : GoodIn wsX4_counted wsX1_cracksInAll := goodIn_r _ [12, 13, 51, 52] (by decide +kernel) (by decide +kernel)
set_option maxRecDepth 20000 in
theorem gX4_counted_X1_cracksInAll_n236 : GoodIn wsX4_counted (wsX1_cracksInAll) := ggX4_counted_X1_cracksInAll
set_option maxRecDepth 20000 in
theorem ggX4_counted_X1_placesOfOpenWater : GoodIn wsX4_counted wsX1_placesOfOpenWater := goodIn_r _ [16, 17, 51, 52] (by decide +kernel) (by decide +kernel)
set_option maxRecDepth 20000 in
theorem gX4_counted_X1_placesOfOpenWater_n239 : GoodIn wsX4_counted (wsX1_placesOfOpenWater) := ggX4_counted_X1_placesOfOpenWater
set_option maxRecDepth 20000 in
theorem ggX4_counted_X2_huts : GoodIn wsX4_counted wsX2_huts := goodIn_r _ [21, 22, 32, 33, 34, 35, 36, 37] (by decide +kernel) (by decide +kernel)
set_option maxRecDepth 20000 in
theorem gX4_counted_X2_huts_n76 : GoodIn wsX4_counted (wsX2_huts) := ggX4_counted_X2_huts
set_option maxRecDepth 20000 in
theorem ggX4_counted_X3_allStakes : GoodIn wsX4_counted wsX3_allStakes := goodIn_r _ [26, 27, 28, 48, 49, 50] (by decide +kernel) (by decide +kernel)
set_option maxRecDepth 20000 in
theorem gX4_counted_X3_allStakes_n242 : GoodIn wsX4_counted (wsX3_allStakes) := ggX4_counted_X3_allStakes
theorem dX4_counted_0 : decode cX4_counted 0 = .ok (.iload_n 1, 1) := by decide +kernel
theorem dX4_counted_1 : decode cX4_counted 1 = .ok (.tableswitch 156 0 9 #[55, 63, 74, 86, 98, 110, 121, 132, 140, 148], 55) := by decide +kernel
theorem dX4_counted_56 : decode cX4_counted 56 = .ok (.aload_n 0, 1) := by decide +kernel
theorem dX4_counted_57 : decode cX4_counted 57 = .ok (.getfield 12, 3) := by decide +kernel
theorem dX4_counted_60 : decode cX4_counted 60 = .ok (.getfield 230, 3) := by decide +kernel
theorem dX4_counted_63 : decode cX4_counted 63 = .ok (.ireturn, 1) := by decide +kernel
theorem dX4_counted_64 : decode cX4_counted 64 = .ok (.aload_n 0, 1) := by decide +kernel
theorem dX4_counted_65 : decode cX4_counted 65 = .ok (.getfield 12, 3) := by decide +kernel
theorem dX4_counted_68 : decode cX4_counted 68 = .ok (.getfield 88, 3) := by decide +kernel
theorem dX4_counted_71 : decode cX4_counted 71 = .ok (.getfield 99, 3) := by decide +kernel
theorem dX4_counted_74 : decode cX4_counted 74 = .ok (.ireturn, 1) := by decide +kernel
theorem dX4_counted_75 : decode cX4_counted 75 = .ok (.aload_n 0, 1) := by decide +kernel
theorem dX4_counted_76 : decode cX4_counted 76 = .ok (.getfield 12, 3) := by decide +kernel
theorem dX4_counted_79 : decode cX4_counted 79 = .ok (.getfield 88, 3) := by decide +kernel
theorem dX4_counted_82 : decode cX4_counted 82 = .ok (.iconst 1, 1) := by decide +kernel
theorem dX4_counted_83 : decode cX4_counted 83 = .ok (.invokevirtual 233, 3) := by decide +kernel
theorem dX4_counted_86 : decode cX4_counted 86 = .ok (.ireturn, 1) := by decide +kernel
theorem dX4_counted_87 : decode cX4_counted 87 = .ok (.aload_n 0, 1) := by decide +kernel
theorem dX4_counted_88 : decode cX4_counted 88 = .ok (.getfield 12, 3) := by decide +kernel
theorem dX4_counted_91 : decode cX4_counted 91 = .ok (.getfield 88, 3) := by decide +kernel
theorem dX4_counted_94 : decode cX4_counted 94 = .ok (.iconst 2, 1) := by decide +kernel
theorem dX4_counted_95 : decode cX4_counted 95 = .ok (.invokevirtual 233, 3) := by decide +kernel
theorem dX4_counted_98 : decode cX4_counted 98 = .ok (.ireturn, 1) := by decide +kernel
theorem dX4_counted_99 : decode cX4_counted 99 = .ok (.aload_n 0, 1) := by decide +kernel
theorem dX4_counted_100 : decode cX4_counted 100 = .ok (.getfield 12, 3) := by decide +kernel
theorem dX4_counted_103 : decode cX4_counted 103 = .ok (.getfield 88, 3) := by decide +kernel
theorem dX4_counted_106 : decode cX4_counted 106 = .ok (.iconst 3, 1) := by decide +kernel
theorem dX4_counted_107 : decode cX4_counted 107 = .ok (.invokevirtual 233, 3) := by decide +kernel
theorem dX4_counted_110 : decode cX4_counted 110 = .ok (.ireturn, 1) := by decide +kernel
theorem dX4_counted_111 : decode cX4_counted 111 = .ok (.aload_n 0, 1) := by decide +kernel
theorem dX4_counted_112 : decode cX4_counted 112 = .ok (.getfield 12, 3) := by decide +kernel
theorem dX4_counted_115 : decode cX4_counted 115 = .ok (.getfield 58, 3) := by decide +kernel
theorem dX4_counted_118 : decode cX4_counted 118 = .ok (.invokevirtual 236, 3) := by decide +kernel
theorem dX4_counted_121 : decode cX4_counted 121 = .ok (.ireturn, 1) := by decide +kernel
theorem dX4_counted_122 : decode cX4_counted 122 = .ok (.aload_n 0, 1) := by decide +kernel
theorem dX4_counted_123 : decode cX4_counted 123 = .ok (.getfield 12, 3) := by decide +kernel
theorem dX4_counted_126 : decode cX4_counted 126 = .ok (.getfield 58, 3) := by decide +kernel
theorem dX4_counted_129 : decode cX4_counted 129 = .ok (.invokevirtual 239, 3) := by decide +kernel
theorem dX4_counted_132 : decode cX4_counted 132 = .ok (.ireturn, 1) := by decide +kernel
theorem dX4_counted_133 : decode cX4_counted 133 = .ok (.aload_n 0, 1) := by decide +kernel
theorem dX4_counted_134 : decode cX4_counted 134 = .ok (.getfield 12, 3) := by decide +kernel
theorem dX4_counted_137 : decode cX4_counted 137 = .ok (.invokevirtual 76, 3) := by decide +kernel
theorem dX4_counted_140 : decode cX4_counted 140 = .ok (.ireturn, 1) := by decide +kernel
theorem dX4_counted_141 : decode cX4_counted 141 = .ok (.aload_n 0, 1) := by decide +kernel
theorem dX4_counted_142 : decode cX4_counted 142 = .ok (.getfield 22, 3) := by decide +kernel
theorem dX4_counted_145 : decode cX4_counted 145 = .ok (.getfield 160, 3) := by decide +kernel
theorem dX4_counted_148 : decode cX4_counted 148 = .ok (.ireturn, 1) := by decide +kernel
theorem dX4_counted_149 : decode cX4_counted 149 = .ok (.aload_n 0, 1) := by decide +kernel
theorem dX4_counted_150 : decode cX4_counted 150 = .ok (.getfield 22, 3) := by decide +kernel
theorem dX4_counted_153 : decode cX4_counted 153 = .ok (.invokevirtual 242, 3) := by decide +kernel
theorem dX4_counted_156 : decode cX4_counted 156 = .ok (.ireturn, 1) := by decide +kernel
theorem dX4_counted_157 : decode cX4_counted 157 = .ok (.aload_n 0, 1) := by decide +kernel
theorem dX4_counted_158 : decode cX4_counted 158 = .ok (.getfield 12, 3) := by decide +kernel
theorem dX4_counted_161 : decode cX4_counted 161 = .ok (.getfield 203, 3) := by decide +kernel
theorem dX4_counted_164 : decode cX4_counted 164 = .ok (.ireturn, 1) := by decide +kernel
set_option maxRecDepth 20000 in
theorem ggX4_winOf_X2_hasThawed : GoodIn wsX4_winOf wsX2_hasThawed := goodIn_r _ [6, 7, 30, 31, 32, 33, 34, 35] (by decide +kernel) (by decide +kernel)
set_option maxRecDepth 20000 in
theorem gX4_winOf_X2_hasThawed_n163 : GoodIn wsX4_winOf (wsX2_hasThawed) := ggX4_winOf_X2_hasThawed
set_option maxRecDepth 20000 in
theorem ggX4_winOf_X3_winOn : GoodIn wsX4_winOf wsX3_winOn := goodIn_r _ [11, 12, 13, 14, 15, 9, 16, 17, 18, 19, 20, 21, 22, 23, 24, 25, 26, 36, 37, 38] (by decide +kernel) (by decide +kernel)
set_option maxRecDepth 20000 in
theorem gX4_winOf_X3_winOn_n245 : GoodIn wsX4_winOf (wsX3_winOn) := ggX4_winOf_X3_winOn
theorem dX4_winOf_0 : decode cX4_winOf 0 = .ok (.aload_n 0, 1) := by decide +kernel
theorem dX4_winOf_1 : decode cX4_winOf 1 = .ok (.getfield 12, 3) := by decide +kernel
theorem dX4_winOf_4 : decode cX4_winOf 4 = .ok (.invokevirtual 163, 3) := by decide +kernel
theorem dX4_winOf_7 : decode cX4_winOf 7 = .ok (.ifCond .eq 21, 3) := by decide +kernel
theorem dX4_winOf_10 : decode cX4_winOf 10 = .ok (.aload_n 0, 1) := by decide +kernel
theorem dX4_winOf_11 : decode cX4_winOf 11 = .ok (.getfield 22, 3) := by decide +kernel
theorem dX4_winOf_14 : decode cX4_winOf 14 = .ok (.aload_n 0, 1) := by decide +kernel
theorem dX4_winOf_15 : decode cX4_winOf 15 = .ok (.getfield 12, 3) := by decide +kernel
theorem dX4_winOf_18 : decode cX4_winOf 18 = .ok (.getfield 203, 3) := by decide +kernel
theorem dX4_winOf_21 : decode cX4_winOf 21 = .ok (.iload_n 1, 1) := by decide +kernel
theorem dX4_winOf_22 : decode cX4_winOf 22 = .ok (.invokevirtual 245, 3) := by decide +kernel
theorem dX4_winOf_25 : decode cX4_winOf 25 = .ok (.goto 4, 3) := by decide +kernel
theorem dX4_winOf_28 : decode cX4_winOf 28 = .ok (.iconst 0, 1) := by decide +kernel
theorem dX4_winOf_29 : decode cX4_winOf 29 = .ok (.ireturn, 1) := by decide +kernel
set_option maxRecDepth 20000 in
theorem ggX4_mixedWithRiver_X4_mixed : GoodIn wsX4_mixedWithRiver wsX4_mixed := goodIn_r _ [5, 6] (by decide +kernel) (by decide +kernel)
set_option maxRecDepth 20000 in
theorem gX4_mixedWithRiver_X4_mixed : GoodIn wsX4_mixedWithRiver (va_wsS RX4 216 yX4_mixed wsX4_mixed) := goodIn_app (goodIn_of _ (by decide +kernel)) ggX4_mixedWithRiver_X4_mixed
theorem dX4_mixedWithRiver_0 : decode cX4_mixedWithRiver 0 = .ok (.lload_n 1, 1) := by decide +kernel
theorem dX4_mixedWithRiver_1 : decode cX4_mixedWithRiver 1 = .ok (.lstore_n 3, 1) := by decide +kernel
theorem dX4_mixedWithRiver_2 : decode cX4_mixedWithRiver 2 = .ok (.iconst 0, 1) := by decide +kernel
theorem dX4_mixedWithRiver_3 : decode cX4_mixedWithRiver 3 = .ok (.istore 5, 2) := by decide +kernel
theorem dX4_mixedWithRiver_5 : decode cX4_mixedWithRiver 5 = .ok (.iload 5, 2) := by decide +kernel
theorem dX4_mixedWithRiver_7 : decode cX4_mixedWithRiver 7 = .ok (.bipush 14, 2) := by decide +kernel
theorem dX4_mixedWithRiver_9 : decode cX4_mixedWithRiver 9 = .ok (.if_icmp .ge 24, 3) := by decide +kernel
theorem dX4_mixedWithRiver_12 : decode cX4_mixedWithRiver 12 = .ok (.lload_n 3, 1) := by decide +kernel
theorem dX4_mixedWithRiver_13 : decode cX4_mixedWithRiver 13 = .ok (.aload_n 0, 1) := by decide +kernel
theorem dX4_mixedWithRiver_14 : decode cX4_mixedWithRiver 14 = .ok (.getfield 12, 3) := by decide +kernel
theorem dX4_mixedWithRiver_17 : decode cX4_mixedWithRiver 17 = .ok (.getfield 42, 3) := by decide +kernel
theorem dX4_mixedWithRiver_20 : decode cX4_mixedWithRiver 20 = .ok (.iload 5, 2) := by decide +kernel
theorem dX4_mixedWithRiver_22 : decode cX4_mixedWithRiver 22 = .ok (.iaload, 1) := by decide +kernel
theorem dX4_mixedWithRiver_23 : decode cX4_mixedWithRiver 23 = .ok (.invokestatic 216, 3) := by decide +kernel
theorem dX4_mixedWithRiver_26 : decode cX4_mixedWithRiver 26 = .ok (.lstore_n 3, 1) := by decide +kernel
theorem dX4_mixedWithRiver_27 : decode cX4_mixedWithRiver 27 = .ok (.iinc 5 1, 3) := by decide +kernel
theorem dX4_mixedWithRiver_30 : decode cX4_mixedWithRiver 30 = .ok (.goto (-25), 3) := by decide +kernel
theorem dX4_mixedWithRiver_33 : decode cX4_mixedWithRiver 33 = .ok (.iconst 0, 1) := by decide +kernel
theorem dX4_mixedWithRiver_34 : decode cX4_mixedWithRiver 34 = .ok (.istore 5, 2) := by decide +kernel
theorem dX4_mixedWithRiver_36 : decode cX4_mixedWithRiver 36 = .ok (.iload 5, 2) := by decide +kernel
theorem dX4_mixedWithRiver_38 : decode cX4_mixedWithRiver 38 = .ok (.bipush 36, 2) := by decide +kernel
theorem dX4_mixedWithRiver_40 : decode cX4_mixedWithRiver 40 = .ok (.if_icmp .ge 45, 3) := by decide +kernel
theorem dX4_mixedWithRiver_43 : decode cX4_mixedWithRiver 43 = .ok (.lload_n 3, 1) := by decide +kernel
theorem dX4_mixedWithRiver_44 : decode cX4_mixedWithRiver 44 = .ok (.aload_n 0, 1) := by decide +kernel
theorem dX4_mixedWithRiver_45 : decode cX4_mixedWithRiver 45 = .ok (.getfield 12, 3) := by decide +kernel
theorem dX4_mixedWithRiver_48 : decode cX4_mixedWithRiver 48 = .ok (.getfield 58, 3) := by decide +kernel
theorem dX4_mixedWithRiver_51 : decode cX4_mixedWithRiver 51 = .ok (.getfield 62, 3) := by decide +kernel
theorem dX4_mixedWithRiver_54 : decode cX4_mixedWithRiver 54 = .ok (.iload 5, 2) := by decide +kernel
theorem dX4_mixedWithRiver_56 : decode cX4_mixedWithRiver 56 = .ok (.iaload, 1) := by decide +kernel
theorem dX4_mixedWithRiver_57 : decode cX4_mixedWithRiver 57 = .ok (.invokestatic 216, 3) := by decide +kernel
theorem dX4_mixedWithRiver_60 : decode cX4_mixedWithRiver 60 = .ok (.lstore_n 3, 1) := by decide +kernel
theorem dX4_mixedWithRiver_61 : decode cX4_mixedWithRiver 61 = .ok (.lload_n 3, 1) := by decide +kernel
theorem dX4_mixedWithRiver_62 : decode cX4_mixedWithRiver 62 = .ok (.aload_n 0, 1) := by decide +kernel
theorem dX4_mixedWithRiver_63 : decode cX4_mixedWithRiver 63 = .ok (.getfield 12, 3) := by decide +kernel
theorem dX4_mixedWithRiver_66 : decode cX4_mixedWithRiver 66 = .ok (.getfield 58, 3) := by decide +kernel
theorem dX4_mixedWithRiver_69 : decode cX4_mixedWithRiver 69 = .ok (.getfield 82, 3) := by decide +kernel
theorem dX4_mixedWithRiver_72 : decode cX4_mixedWithRiver 72 = .ok (.iload 5, 2) := by decide +kernel
theorem dX4_mixedWithRiver_74 : decode cX4_mixedWithRiver 74 = .ok (.iaload, 1) := by decide +kernel
theorem dX4_mixedWithRiver_75 : decode cX4_mixedWithRiver 75 = .ok (.invokestatic 216, 3) := by decide +kernel
theorem dX4_mixedWithRiver_78 : decode cX4_mixedWithRiver 78 = .ok (.lstore_n 3, 1) := by decide +kernel
theorem dX4_mixedWithRiver_79 : decode cX4_mixedWithRiver 79 = .ok (.iinc 5 1, 3) := by decide +kernel
theorem dX4_mixedWithRiver_82 : decode cX4_mixedWithRiver 82 = .ok (.goto (-46), 3) := by decide +kernel
theorem dX4_mixedWithRiver_85 : decode cX4_mixedWithRiver 85 = .ok (.iconst 0, 1) := by decide +kernel
theorem dX4_mixedWithRiver_86 : decode cX4_mixedWithRiver 86 = .ok (.istore 5, 2) := by decide +kernel
theorem dX4_mixedWithRiver_88 : decode cX4_mixedWithRiver 88 = .ok (.iload 5, 2) := by decide +kernel
theorem dX4_mixedWithRiver_90 : decode cX4_mixedWithRiver 90 = .ok (.bipush 12, 2) := by decide +kernel
theorem dX4_mixedWithRiver_92 : decode cX4_mixedWithRiver 92 = .ok (.if_icmp .ge 24, 3) := by decide +kernel
theorem dX4_mixedWithRiver_95 : decode cX4_mixedWithRiver 95 = .ok (.lload_n 3, 1) := by decide +kernel
theorem dX4_mixedWithRiver_96 : decode cX4_mixedWithRiver 96 = .ok (.aload_n 0, 1) := by decide +kernel
theorem dX4_mixedWithRiver_97 : decode cX4_mixedWithRiver 97 = .ok (.getfield 12, 3) := by decide +kernel
theorem dX4_mixedWithRiver_100 : decode cX4_mixedWithRiver 100 = .ok (.getfield 73, 3) := by decide +kernel
theorem dX4_mixedWithRiver_103 : decode cX4_mixedWithRiver 103 = .ok (.iload 5, 2) := by decide +kernel
theorem dX4_mixedWithRiver_105 : decode cX4_mixedWithRiver 105 = .ok (.iaload, 1) := by decide +kernel
theorem dX4_mixedWithRiver_106 : decode cX4_mixedWithRiver 106 = .ok (.invokestatic 216, 3) := by decide +kernel
theorem dX4_mixedWithRiver_109 : decode cX4_mixedWithRiver 109 = .ok (.lstore_n 3, 1) := by decide +kernel
theorem dX4_mixedWithRiver_110 : decode cX4_mixedWithRiver 110 = .ok (.iinc 5 1, 3) := by decide +kernel
theorem dX4_mixedWithRiver_113 : decode cX4_mixedWithRiver 113 = .ok (.goto (-25), 3) := by decide +kernel
theorem dX4_mixedWithRiver_116 : decode cX4_mixedWithRiver 116 = .ok (.lload_n 3, 1) := by decide +kernel
theorem dX4_mixedWithRiver_117 : decode cX4_mixedWithRiver 117 = .ok (.lreturn, 1) := by decide +kernel
set_option maxRecDepth 20000 in
theorem ggX4_mixedWithCouriers_X0_tell : GoodIn wsX4_mixedWithCouriers wsX0_tell := goodIn_r _ [5, 6, 7, 8, 9, 10, 11, 12, 13, 14, 29, 30, 31, 32, 33, 34, 35, 36, 37, 38] (by decide +kernel) (by decide +kernel)
set_option maxRecDepth 20000 in
theorem gX4_mixedWithCouriers_X0_tell_n155 : GoodIn wsX4_mixedWithCouriers (wsX0_tell) := ggX4_mixedWithCouriers_X0_tell
set_option maxRecDepth 20000 in
theorem ggX4_mixedWithCouriers_X4_mixed : GoodIn wsX4_mixedWithCouriers wsX4_mixed := goodIn_r _ [18, 19] (by decide +kernel) (by decide +kernel)
set_option maxRecDepth 20000 in
theorem gX4_mixedWithCouriers_X4_mixed : GoodIn wsX4_mixedWithCouriers (va_wsS RX4 216 yX4_mixed wsX4_mixed) := goodIn_app (goodIn_of _ (by decide +kernel)) ggX4_mixedWithCouriers_X4_mixed
theorem dX4_mixedWithCouriers_0 : decode cX4_mixedWithCouriers 0 = .ok (.lload_n 1, 1) := by decide +kernel
theorem dX4_mixedWithCouriers_1 : decode cX4_mixedWithCouriers 1 = .ok (.lstore_n 3, 1) := by decide +kernel
theorem dX4_mixedWithCouriers_2 : decode cX4_mixedWithCouriers 2 = .ok (.iconst 0, 1) := by decide +kernel
theorem dX4_mixedWithCouriers_3 : decode cX4_mixedWithCouriers 3 = .ok (.istore 5, 2) := by decide +kernel
theorem dX4_mixedWithCouriers_5 : decode cX4_mixedWithCouriers 5 = .ok (.iload 5, 2) := by decide +kernel
theorem dX4_mixedWithCouriers_7 : decode cX4_mixedWithCouriers 7 = .ok (.aload_n 0, 1) := by decide +kernel
theorem dX4_mixedWithCouriers_8 : decode cX4_mixedWithCouriers 8 = .ok (.getfield 12, 3) := by decide +kernel
theorem dX4_mixedWithCouriers_11 : decode cX4_mixedWithCouriers 11 = .ok (.getfield 88, 3) := by decide +kernel
theorem dX4_mixedWithCouriers_14 : decode cX4_mixedWithCouriers 14 = .ok (.getfield 99, 3) := by decide +kernel
theorem dX4_mixedWithCouriers_17 : decode cX4_mixedWithCouriers 17 = .ok (.if_icmp .ge 44, 3) := by decide +kernel
theorem dX4_mixedWithCouriers_20 : decode cX4_mixedWithCouriers 20 = .ok (.iconst 0, 1) := by decide +kernel
theorem dX4_mixedWithCouriers_21 : decode cX4_mixedWithCouriers 21 = .ok (.istore 6, 2) := by decide +kernel
theorem dX4_mixedWithCouriers_23 : decode cX4_mixedWithCouriers 23 = .ok (.iload 6, 2) := by decide +kernel
theorem dX4_mixedWithCouriers_25 : decode cX4_mixedWithCouriers 25 = .ok (.bipush 8, 2) := by decide +kernel
theorem dX4_mixedWithCouriers_27 : decode cX4_mixedWithCouriers 27 = .ok (.if_icmp .gt 28, 3) := by decide +kernel
theorem dX4_mixedWithCouriers_30 : decode cX4_mixedWithCouriers 30 = .ok (.lload_n 3, 1) := by decide +kernel
theorem dX4_mixedWithCouriers_31 : decode cX4_mixedWithCouriers 31 = .ok (.aload_n 0, 1) := by decide +kernel
theorem dX4_mixedWithCouriers_32 : decode cX4_mixedWithCouriers 32 = .ok (.getfield 12, 3) := by decide +kernel
theorem dX4_mixedWithCouriers_35 : decode cX4_mixedWithCouriers 35 = .ok (.getfield 88, 3) := by decide +kernel
theorem dX4_mixedWithCouriers_38 : decode cX4_mixedWithCouriers 38 = .ok (.iload 5, 2) := by decide +kernel
theorem dX4_mixedWithCouriers_40 : decode cX4_mixedWithCouriers 40 = .ok (.iload 6, 2) := by decide +kernel
theorem dX4_mixedWithCouriers_42 : decode cX4_mixedWithCouriers 42 = .ok (.invokevirtual 155, 3) := by decide +kernel
theorem dX4_mixedWithCouriers_45 : decode cX4_mixedWithCouriers 45 = .ok (.invokestatic 216, 3) := by decide +kernel
theorem dX4_mixedWithCouriers_48 : decode cX4_mixedWithCouriers 48 = .ok (.lstore_n 3, 1) := by decide +kernel
theorem dX4_mixedWithCouriers_49 : decode cX4_mixedWithCouriers 49 = .ok (.iinc 6 1, 3) := by decide +kernel
theorem dX4_mixedWithCouriers_52 : decode cX4_mixedWithCouriers 52 = .ok (.goto (-29), 3) := by decide +kernel
theorem dX4_mixedWithCouriers_55 : decode cX4_mixedWithCouriers 55 = .ok (.iinc 5 1, 3) := by decide +kernel
theorem dX4_mixedWithCouriers_58 : decode cX4_mixedWithCouriers 58 = .ok (.goto (-53), 3) := by decide +kernel
theorem dX4_mixedWithCouriers_61 : decode cX4_mixedWithCouriers 61 = .ok (.lload_n 3, 1) := by decide +kernel
theorem dX4_mixedWithCouriers_62 : decode cX4_mixedWithCouriers 62 = .ok (.lreturn, 1) := by decide +kernel
set_option maxRecDepth 20000 in
theorem ggX4_mixedWithWagers_X4_mixed : GoodIn wsX4_mixedWithWagers wsX4_mixed := goodIn_r _ [5, 6] (by decide +kernel) (by decide +kernel)
set_option maxRecDepth 20000 in
theorem gX4_mixedWithWagers_X4_mixed : GoodIn wsX4_mixedWithWagers (va_wsS RX4 216 yX4_mixed wsX4_mixed) := goodIn_app (goodIn_of _ (by decide +kernel)) ggX4_mixedWithWagers_X4_mixed
set_option maxRecDepth 20000 in
theorem ggX4_mixedWithWagers_X4_winOf : GoodIn wsX4_mixedWithWagers wsX4_winOf := goodIn_r _ [10, 11, 1, 12, 13, 14, 15, 16, 17, 18, 19, 20, 21, 22, 23, 24, 25, 26, 27, 28, 29, 30, 31, 32, 33, 34, 35, 36, 37, 38, 42, 43, 44, 45, 46, 47, 39, 40, 41] (by decide +kernel) (by decide +kernel)
set_option maxRecDepth 20000 in
theorem gX4_mixedWithWagers_X4_winOf : GoodIn wsX4_mixedWithWagers (wsV RX4 174 RX4 yX4_winOf wsX4_winOf) := goodIn_app (goodIn_of _ (by decide +kernel)) ggX4_mixedWithWagers_X4_winOf
theorem dX4_mixedWithWagers_0 : decode cX4_mixedWithWagers 0 = .ok (.lload_n 1, 1) := by decide +kernel
theorem dX4_mixedWithWagers_1 : decode cX4_mixedWithWagers 1 = .ok (.lstore_n 3, 1) := by decide +kernel
theorem dX4_mixedWithWagers_2 : decode cX4_mixedWithWagers 2 = .ok (.iconst 0, 1) := by decide +kernel
theorem dX4_mixedWithWagers_3 : decode cX4_mixedWithWagers 3 = .ok (.istore 5, 2) := by decide +kernel
theorem dX4_mixedWithWagers_5 : decode cX4_mixedWithWagers 5 = .ok (.iload 5, 2) := by decide +kernel
theorem dX4_mixedWithWagers_7 : decode cX4_mixedWithWagers 7 = .ok (.aload_n 0, 1) := by decide +kernel
theorem dX4_mixedWithWagers_8 : decode cX4_mixedWithWagers 8 = .ok (.getfield 22, 3) := by decide +kernel
theorem dX4_mixedWithWagers_11 : decode cX4_mixedWithWagers 11 = .ok (.getfield 160, 3) := by decide +kernel
theorem dX4_mixedWithWagers_14 : decode cX4_mixedWithWagers 14 = .ok (.if_icmp .ge 50, 3) := by decide +kernel
theorem dX4_mixedWithWagers_17 : decode cX4_mixedWithWagers 17 = .ok (.lload_n 3, 1) := by decide +kernel
theorem dX4_mixedWithWagers_18 : decode cX4_mixedWithWagers 18 = .ok (.aload_n 0, 1) := by decide +kernel
theorem dX4_mixedWithWagers_19 : decode cX4_mixedWithWagers 19 = .ok (.getfield 22, 3) := by decide +kernel
theorem dX4_mixedWithWagers_22 : decode cX4_mixedWithWagers 22 = .ok (.getfield 248, 3) := by decide +kernel
theorem dX4_mixedWithWagers_25 : decode cX4_mixedWithWagers 25 = .ok (.iload 5, 2) := by decide +kernel
theorem dX4_mixedWithWagers_27 : decode cX4_mixedWithWagers 27 = .ok (.iaload, 1) := by decide +kernel
theorem dX4_mixedWithWagers_28 : decode cX4_mixedWithWagers 28 = .ok (.invokestatic 216, 3) := by decide +kernel
theorem dX4_mixedWithWagers_31 : decode cX4_mixedWithWagers 31 = .ok (.lstore_n 3, 1) := by decide +kernel
theorem dX4_mixedWithWagers_32 : decode cX4_mixedWithWagers 32 = .ok (.lload_n 3, 1) := by decide +kernel
theorem dX4_mixedWithWagers_33 : decode cX4_mixedWithWagers 33 = .ok (.aload_n 0, 1) := by decide +kernel
theorem dX4_mixedWithWagers_34 : decode cX4_mixedWithWagers 34 = .ok (.getfield 22, 3) := by decide +kernel
theorem dX4_mixedWithWagers_37 : decode cX4_mixedWithWagers 37 = .ok (.getfield 251, 3) := by decide +kernel
theorem dX4_mixedWithWagers_40 : decode cX4_mixedWithWagers 40 = .ok (.iload 5, 2) := by decide +kernel
theorem dX4_mixedWithWagers_42 : decode cX4_mixedWithWagers 42 = .ok (.iaload, 1) := by decide +kernel
theorem dX4_mixedWithWagers_43 : decode cX4_mixedWithWagers 43 = .ok (.invokestatic 216, 3) := by decide +kernel
theorem dX4_mixedWithWagers_46 : decode cX4_mixedWithWagers 46 = .ok (.lstore_n 3, 1) := by decide +kernel
theorem dX4_mixedWithWagers_47 : decode cX4_mixedWithWagers 47 = .ok (.lload_n 3, 1) := by decide +kernel
theorem dX4_mixedWithWagers_48 : decode cX4_mixedWithWagers 48 = .ok (.aload_n 0, 1) := by decide +kernel
theorem dX4_mixedWithWagers_49 : decode cX4_mixedWithWagers 49 = .ok (.iload 5, 2) := by decide +kernel
theorem dX4_mixedWithWagers_51 : decode cX4_mixedWithWagers 51 = .ok (.invokevirtual 174, 3) := by decide +kernel
theorem dX4_mixedWithWagers_54 : decode cX4_mixedWithWagers 54 = .ok (.invokestatic 216, 3) := by decide +kernel
theorem dX4_mixedWithWagers_57 : decode cX4_mixedWithWagers 57 = .ok (.lstore_n 3, 1) := by decide +kernel
theorem dX4_mixedWithWagers_58 : decode cX4_mixedWithWagers 58 = .ok (.iinc 5 1, 3) := by decide +kernel
theorem dX4_mixedWithWagers_61 : decode cX4_mixedWithWagers 61 = .ok (.goto (-56), 3) := by decide +kernel
theorem dX4_mixedWithWagers_64 : decode cX4_mixedWithWagers 64 = .ok (.lload_n 3, 1) := by decide +kernel
theorem dX4_mixedWithWagers_65 : decode cX4_mixedWithWagers 65 = .ok (.lreturn, 1) := by decide +kernel
theorem dX4_mixed_0 : decode cX4_mixed 0 = .ok (.lload_n 0, 1) := by decide +kernel
theorem dX4_mixed_1 : decode cX4_mixed 1 = .ok (.ldc2_w 254, 3) := by decide +kernel
theorem dX4_mixed_4 : decode cX4_mixed 4 = .ok (.lmul, 1) := by decide +kernel
theorem dX4_mixed_5 : decode cX4_mixed 5 = .ok (.iload_n 2, 1) := by decide +kernel
theorem dX4_mixed_6 : decode cX4_mixed 6 = .ok (.i2l, 1) := by decide +kernel
theorem dX4_mixed_7 : decode cX4_mixed 7 = .ok (.ladd, 1) := by decide +kernel
theorem dX4_mixed_8 : decode cX4_mixed 8 = .ok (.lreturn, 1) := by decide +kernel
theorem dX4_isWithin_0 : decode cX4_isWithin 0 = .ok (.iload_n 1, 1) := by decide +kernel
theorem dX4_isWithin_1 : decode cX4_isWithin 1 = .ok (.iload_n 0, 1) := by decide +kernel
theorem dX4_isWithin_2 : decode cX4_isWithin 2 = .ok (.if_icmp .gt 12, 3) := by decide +kernel
theorem dX4_isWithin_5 : decode cX4_isWithin 5 = .ok (.iload_n 0, 1) := by decide +kernel
theorem dX4_isWithin_6 : decode cX4_isWithin 6 = .ok (.iload_n 2, 1) := by decide +kernel
theorem dX4_isWithin_7 : decode cX4_isWithin 7 = .ok (.if_icmp .gt 7, 3) := by decide +kernel
theorem dX4_isWithin_10 : decode cX4_isWithin 10 = .ok (.iconst 1, 1) := by decide +kernel
theorem dX4_isWithin_11 : decode cX4_isWithin 11 = .ok (.goto 4, 3) := by decide +kernel
theorem dX4_isWithin_14 : decode cX4_isWithin 14 = .ok (.iconst 0, 1) := by decide +kernel
theorem dX4_isWithin_15 : decode cX4_isWithin 15 = .ok (.ireturn, 1) := by decide +kernel
set_option maxRecDepth 20000 in
theorem ggX4_isSection_X4_isWithin : GoodIn wsX4_isSection wsX4_isWithin := goodIn_r _ [4] (by decide +kernel) (by decide +kernel)
set_option maxRecDepth 20000 in
theorem gX4_isSection_X4_isWithin : GoodIn wsX4_isSection (va_wsS RX4 26 yX4_isWithin wsX4_isWithin) := goodIn_app (goodIn_of _ (by decide +kernel)) ggX4_isSection_X4_isWithin
theorem dX4_isSection_0 : decode cX4_isSection 0 = .ok (.iload_n 0, 1) := by decide +kernel
theorem dX4_isSection_1 : decode cX4_isSection 1 = .ok (.iconst 0, 1) := by decide +kernel
theorem dX4_isSection_2 : decode cX4_isSection 2 = .ok (.bipush 11, 2) := by decide +kernel
theorem dX4_isSection_4 : decode cX4_isSection 4 = .ok (.invokestatic 26, 3) := by decide +kernel
theorem dX4_isSection_7 : decode cX4_isSection 7 = .ok (.ireturn, 1) := by decide +kernel
set_option maxRecDepth 20000 in
theorem ggX4_isPlace_X4_isSection : GoodIn wsX4_isPlace wsX4_isSection := goodIn_r _ [4, 5, 6, 3, 7] (by decide +kernel) (by decide +kernel)
set_option maxRecDepth 20000 in
theorem gX4_isPlace_X4_isSection : GoodIn wsX4_isPlace (va_wsS RX4 67 yX4_isSection wsX4_isSection) := goodIn_app (goodIn_of _ (by decide +kernel)) ggX4_isPlace_X4_isSection
set_option maxRecDepth 20000 in
theorem ggX4_isPlace_X4_isWithin : GoodIn wsX4_isPlace wsX4_isWithin := goodIn_r _ [7] (by decide +kernel) (by decide +kernel)
set_option maxRecDepth 20000 in
theorem gX4_isPlace_X4_isWithin : GoodIn wsX4_isPlace (va_wsS RX4 26 yX4_isWithin wsX4_isWithin) := goodIn_app (goodIn_of _ (by decide +kernel)) ggX4_isPlace_X4_isWithin
theorem dX4_isPlace_0 : decode cX4_isPlace 0 = .ok (.iload_n 0, 1) := by decide +kernel
theorem dX4_isPlace_1 : decode cX4_isPlace 1 = .ok (.invokestatic 67, 3) := by decide +kernel
theorem dX4_isPlace_4 : decode cX4_isPlace 4 = .ok (.ifCond .eq 16, 3) := by decide +kernel
theorem dX4_isPlace_7 : decode cX4_isPlace 7 = .ok (.iload_n 1, 1) := by decide +kernel
theorem dX4_isPlace_8 : decode cX4_isPlace 8 = .ok (.iconst 0, 1) := by decide +kernel
theorem dX4_isPlace_9 : decode cX4_isPlace 9 = .ok (.iconst 2, 1) := by decide +kernel
theorem dX4_isPlace_10 : decode cX4_isPlace 10 = .ok (.invokestatic 26, 3) := by decide +kernel
theorem dX4_isPlace_13 : decode cX4_isPlace 13 = .ok (.ifCond .eq 7, 3) := by decide +kernel
theorem dX4_isPlace_16 : decode cX4_isPlace 16 = .ok (.iconst 1, 1) := by decide +kernel
theorem dX4_isPlace_17 : decode cX4_isPlace 17 = .ok (.goto 4, 3) := by decide +kernel
theorem dX4_isPlace_20 : decode cX4_isPlace 20 = .ok (.iconst 0, 1) := by decide +kernel
theorem dX4_isPlace_21 : decode cX4_isPlace 21 = .ok (.ireturn, 1) := by decide +kernel
theorem dX4_placeOf_0 : decode cX4_placeOf 0 = .ok (.iload_n 0, 1) := by decide +kernel
theorem dX4_placeOf_1 : decode cX4_placeOf 1 = .ok (.iconst 3, 1) := by decide +kernel
theorem dX4_placeOf_2 : decode cX4_placeOf 2 = .ok (.imul, 1) := by decide +kernel
theorem dX4_placeOf_3 : decode cX4_placeOf 3 = .ok (.iload_n 1, 1) := by decide +kernel
theorem dX4_placeOf_4 : decode cX4_placeOf 4 = .ok (.iadd, 1) := by decide +kernel
theorem dX4_placeOf_5 : decode cX4_placeOf 5 = .ok (.ireturn, 1) := by decide +kernel
theorem dX5_init_0 : decode cX5_init 0 = .ok (.aload_n 0, 1) := by decide +kernel
theorem dX5_init_1 : decode cX5_init 1 = .ok (.aload_n 1, 1) := by decide +kernel
theorem dX5_init_2 : decode cX5_init 2 = .ok (.putfield 3, 3) := by decide +kernel
theorem dX5_init_5 : decode cX5_init 5 = .ok (.aload_n 0, 1) := by decide +kernel
theorem dX5_init_6 : decode cX5_init 6 = .ok (.invokespecial 9, 3) := by decide +kernel
theorem dX5_init_9 : decode cX5_init 9 = .ok (.aload_n 0, 1) := by decide +kernel
theorem dX5_init_10 : decode cX5_init 10 = .ok (.iconst (-1), 1) := by decide +kernel
theorem dX5_init_11 : decode cX5_init 11 = .ok (.putfield 15, 3) := by decide +kernel
theorem dX5_init_14 : decode cX5_init 14 = .ok (.aload_n 0, 1) := by decide +kernel
theorem dX5_init_15 : decode cX5_init 15 = .ok (.bipush 36, 2) := by decide +kernel
theorem dX5_init_17 : decode cX5_init 17 = .ok (.newarray .int, 2) := by decide +kernel
theorem dX5_init_19 : decode cX5_init 19 = .ok (.putfield 19, 3) := by decide +kernel
theorem dX5_init_22 : decode cX5_init 22 = .ok (.aload_n 0, 1) := by decide +kernel
theorem dX5_init_23 : decode cX5_init 23 = .ok (.bipush 36, 2) := by decide +kernel
theorem dX5_init_25 : decode cX5_init 25 = .ok (.newarray .int, 2) := by decide +kernel
theorem dX5_init_27 : decode cX5_init 27 = .ok (.putfield 23, 3) := by decide +kernel
theorem dX5_init_30 : decode cX5_init 30 = .ok (.aload_n 0, 1) := by decide +kernel
theorem dX5_init_31 : decode cX5_init 31 = .ok (.bipush 72, 2) := by decide +kernel
theorem dX5_init_33 : decode cX5_init 33 = .ok (.newarray .int, 2) := by decide +kernel
theorem dX5_init_35 : decode cX5_init 35 = .ok (.putfield 26, 3) := by decide +kernel
theorem dX5_init_38 : decode cX5_init 38 = .ok (.return_, 1) := by decide +kernel
theorem dX5_copy_0 : decode cX5_copy 0 = .ok (.aload_n 1, 1) := by decide +kernel
theorem dX5_copy_1 : decode cX5_copy 1 = .ok (.iconst 0, 1) := by decide +kernel
theorem dX5_copy_2 : decode cX5_copy 2 = .ok (.aload_n 2, 1) := by decide +kernel
theorem dX5_copy_3 : decode cX5_copy 3 = .ok (.iconst 0, 1) := by decide +kernel
theorem dX5_copy_4 : decode cX5_copy 4 = .ok (.aload_n 1, 1) := by decide +kernel
theorem dX5_copy_5 : decode cX5_copy 5 = .ok (.arraylength, 1) := by decide +kernel
theorem dX5_copy_6 : decode cX5_copy 6 = .ok (.invokestatic 29, 3) := by decide +kernel
theorem dX5_copy_9 : decode cX5_copy 9 = .ok (.return_, 1) := by decide +kernel
set_option maxRecDepth 20000 in
theorem ggX5_become_X5_copy : GoodIn wsX5_become wsX5_copy := goodIn_r _ [12, 13, 14, 15, 16] (by decide +kernel) (by decide +kernel)
set_option maxRecDepth 20000 in
theorem gX5_become_X5_copy : GoodIn wsX5_become (wsV RX5 44 RX5 yX5_copy wsX5_copy) := goodIn_app (goodIn_of _ (by decide +kernel)) ggX5_become_X5_copy
theorem dX5_become_0 : decode cX5_become 0 = .ok (.aload_n 0, 1) := by decide +kernel
theorem dX5_become_1 : decode cX5_become 1 = .ok (.aload_n 1, 1) := by decide +kernel
theorem dX5_become_2 : decode cX5_become 2 = .ok (.getfield 35, 3) := by decide +kernel
theorem dX5_become_5 : decode cX5_become 5 = .ok (.putfield 35, 3) := by decide +kernel
theorem dX5_become_8 : decode cX5_become 8 = .ok (.aload_n 0, 1) := by decide +kernel
theorem dX5_become_9 : decode cX5_become 9 = .ok (.aload_n 1, 1) := by decide +kernel
theorem dX5_become_10 : decode cX5_become 10 = .ok (.getfield 38, 3) := by decide +kernel
theorem dX5_become_13 : decode cX5_become 13 = .ok (.putfield 38, 3) := by decide +kernel
theorem dX5_become_16 : decode cX5_become 16 = .ok (.aload_n 0, 1) := by decide +kernel
theorem dX5_become_17 : decode cX5_become 17 = .ok (.aload_n 1, 1) := by decide +kernel
theorem dX5_become_18 : decode cX5_become 18 = .ok (.getfield 15, 3) := by decide +kernel
theorem dX5_become_21 : decode cX5_become 21 = .ok (.putfield 15, 3) := by decide +kernel
theorem dX5_become_24 : decode cX5_become 24 = .ok (.aload_n 0, 1) := by decide +kernel
theorem dX5_become_25 : decode cX5_become 25 = .ok (.aload_n 1, 1) := by decide +kernel
theorem dX5_become_26 : decode cX5_become 26 = .ok (.getfield 41, 3) := by decide +kernel
theorem dX5_become_29 : decode cX5_become 29 = .ok (.putfield 41, 3) := by decide +kernel
theorem dX5_become_32 : decode cX5_become 32 = .ok (.aload_n 0, 1) := by decide +kernel
theorem dX5_become_33 : decode cX5_become 33 = .ok (.aload_n 1, 1) := by decide +kernel
theorem dX5_become_34 : decode cX5_become 34 = .ok (.getfield 19, 3) := by decide +kernel
theorem dX5_become_37 : decode cX5_become 37 = .ok (.aload_n 0, 1) := by decide +kernel
theorem dX5_become_38 : decode cX5_become 38 = .ok (.getfield 19, 3) := by decide +kernel
theorem dX5_become_41 : decode cX5_become 41 = .ok (.invokevirtual 44, 3) := by decide +kernel
theorem dX5_become_44 : decode cX5_become 44 = .ok (.aload_n 0, 1) := by decide +kernel
theorem dX5_become_45 : decode cX5_become 45 = .ok (.aload_n 1, 1) := by decide +kernel
theorem dX5_become_46 : decode cX5_become 46 = .ok (.getfield 23, 3) := by decide +kernel
theorem dX5_become_49 : decode cX5_become 49 = .ok (.aload_n 0, 1) := by decide +kernel
theorem dX5_become_50 : decode cX5_become 50 = .ok (.getfield 23, 3) := by decide +kernel
theorem dX5_become_53 : decode cX5_become 53 = .ok (.invokevirtual 44, 3) := by decide +kernel
theorem dX5_become_56 : decode cX5_become 56 = .ok (.aload_n 0, 1) := by decide +kernel
theorem dX5_become_57 : decode cX5_become 57 = .ok (.aload_n 1, 1) := by decide +kernel
theorem dX5_become_58 : decode cX5_become 58 = .ok (.getfield 26, 3) := by decide +kernel
theorem dX5_become_61 : decode cX5_become 61 = .ok (.aload_n 0, 1) := by decide +kernel
theorem dX5_become_62 : decode cX5_become 62 = .ok (.getfield 26, 3) := by decide +kernel
theorem dX5_become_65 : decode cX5_become 65 = .ok (.invokevirtual 44, 3) := by decide +kernel
theorem dX5_become_68 : decode cX5_become 68 = .ok (.return_, 1) := by decide +kernel
theorem dX5_get_0 : decode cX5_get 0 = .ok (.aload_n 0, 1) := by decide +kernel
theorem dX5_get_1 : decode cX5_get 1 = .ok (.getfield 26, 3) := by decide +kernel
theorem dX5_get_4 : decode cX5_get 4 = .ok (.bipush 9, 2) := by decide +kernel
theorem dX5_get_6 : decode cX5_get 6 = .ok (.iload_n 1, 1) := by decide +kernel
theorem dX5_get_7 : decode cX5_get 7 = .ok (.imul, 1) := by decide +kernel
theorem dX5_get_8 : decode cX5_get 8 = .ok (.iload_n 2, 1) := by decide +kernel
theorem dX5_get_9 : decode cX5_get 9 = .ok (.iadd, 1) := by decide +kernel
theorem dX5_get_10 : decode cX5_get 10 = .ok (.iaload, 1) := by decide +kernel
theorem dX5_get_11 : decode cX5_get 11 = .ok (.ireturn, 1) := by decide +kernel
theorem dX5_set_0 : decode cX5_set 0 = .ok (.aload_n 0, 1) := by decide +kernel
theorem dX5_set_1 : decode cX5_set 1 = .ok (.getfield 26, 3) := by decide +kernel
theorem dX5_set_4 : decode cX5_set 4 = .ok (.bipush 9, 2) := by decide +kernel
theorem dX5_set_6 : decode cX5_set 6 = .ok (.iload_n 1, 1) := by decide +kernel
theorem dX5_set_7 : decode cX5_set 7 = .ok (.imul, 1) := by decide +kernel
theorem dX5_set_8 : decode cX5_set 8 = .ok (.iload_n 2, 1) := by decide +kernel
theorem dX5_set_9 : decode cX5_set 9 = .ok (.iadd, 1) := by decide +kernel
theorem dX5_set_10 : decode cX5_set 10 = .ok (.iload_n 3, 1) := by decide +kernel
theorem dX5_set_11 : decode cX5_set 11 = .ok (.iastore, 1) := by decide +kernel
theorem dX5_set_12 : decode cX5_set 12 = .ok (.return_, 1) := by decide +kernel
theorem dX5_holds_0 : decode cX5_holds 0 = .ok (.aload_n 0, 1) := by decide +kernel
theorem dX5_holds_1 : decode cX5_holds 1 = .ok (.getfield 19, 3) := by decide +kernel
theorem dX5_holds_4 : decode cX5_holds 4 = .ok (.iload_n 1, 1) := by decide +kernel
theorem dX5_holds_5 : decode cX5_holds 5 = .ok (.iaload, 1) := by decide +kernel
theorem dX5_holds_6 : decode cX5_holds 6 = .ok (.iconst 3, 1) := by decide +kernel
theorem dX5_holds_7 : decode cX5_holds 7 = .ok (.aload_n 0, 1) := by decide +kernel
theorem dX5_holds_8 : decode cX5_holds 8 = .ok (.getfield 23, 3) := by decide +kernel
theorem dX5_holds_11 : decode cX5_holds 11 = .ok (.iload_n 1, 1) := by decide +kernel
theorem dX5_holds_12 : decode cX5_holds 12 = .ok (.iaload, 1) := by decide +kernel
theorem dX5_holds_13 : decode cX5_holds 13 = .ok (.imul, 1) := by decide +kernel
theorem dX5_holds_14 : decode cX5_holds 14 = .ok (.isub, 1) := by decide +kernel
theorem dX5_holds_15 : decode cX5_holds 15 = .ok (.ireturn, 1) := by decide +kernel
set_option maxRecDepth 20000 in
theorem ggX5_load_X5_get : GoodIn wsX5_load wsX5_get := goodIn_r _ [5, 6, 7, 8, 9, 10, 11, 12, 13, 14] (by decide +kernel) (by decide +kernel)
set_option maxRecDepth 20000 in
theorem gX5_load_X5_get : GoodIn wsX5_load (wsV RX5 48 RX5 yX5_get wsX5_get) := goodIn_app (goodIn_of _ (by decide +kernel)) ggX5_load_X5_get
theorem dX5_load_0 : decode cX5_load 0 = .ok (.aload_n 0, 1) := by decide +kernel
theorem dX5_load_1 : decode cX5_load 1 = .ok (.iload_n 1, 1) := by decide +kernel
theorem dX5_load_2 : decode cX5_load 2 = .ok (.iconst 0, 1) := by decide +kernel
theorem dX5_load_3 : decode cX5_load 3 = .ok (.invokevirtual 48, 3) := by decide +kernel
theorem dX5_load_6 : decode cX5_load 6 = .ok (.aload_n 0, 1) := by decide +kernel
theorem dX5_load_7 : decode cX5_load 7 = .ok (.iload_n 1, 1) := by decide +kernel
theorem dX5_load_8 : decode cX5_load 8 = .ok (.iconst 1, 1) := by decide +kernel
theorem dX5_load_9 : decode cX5_load 9 = .ok (.invokevirtual 48, 3) := by decide +kernel
theorem dX5_load_12 : decode cX5_load 12 = .ok (.iadd, 1) := by decide +kernel
theorem dX5_load_13 : decode cX5_load 13 = .ok (.ireturn, 1) := by decide +kernel
theorem dX5_weather_0 : decode cX5_weather 0 = .ok (.aload_n 0, 1) := by decide +kernel
theorem dX5_weather_1 : decode cX5_weather 1 = .ok (.getfield 3, 3) := by decide +kernel
theorem dX5_weather_4 : decode cX5_weather 4 = .ok (.getfield 52, 3) := by decide +kernel
theorem dX5_weather_7 : decode cX5_weather 7 = .ok (.aload_n 0, 1) := by decide +kernel
theorem dX5_weather_8 : decode cX5_weather 8 = .ok (.getfield 35, 3) := by decide +kernel
theorem dX5_weather_11 : decode cX5_weather 11 = .ok (.bipush 12, 2) := by decide +kernel
theorem dX5_weather_13 : decode cX5_weather 13 = .ok (.idiv, 1) := by decide +kernel
theorem dX5_weather_14 : decode cX5_weather 14 = .ok (.bipush 14, 2) := by decide +kernel
theorem dX5_weather_16 : decode cX5_weather 16 = .ok (.irem, 1) := by decide +kernel
theorem dX5_weather_17 : decode cX5_weather 17 = .ok (.iaload, 1) := by decide +kernel
theorem dX5_weather_18 : decode cX5_weather 18 = .ok (.istore_n 1, 1) := by decide +kernel
theorem dX5_weather_19 : decode cX5_weather 19 = .ok (.iconst 0, 1) := by decide +kernel
theorem dX5_weather_20 : decode cX5_weather 20 = .ok (.istore_n 2, 1) := by decide +kernel
theorem dX5_weather_21 : decode cX5_weather 21 = .ok (.iload_n 2, 1) := by decide +kernel
theorem dX5_weather_22 : decode cX5_weather 22 = .ok (.bipush 36, 2) := by decide +kernel
theorem dX5_weather_24 : decode cX5_weather 24 = .ok (.if_icmp .ge 73, 3) := by decide +kernel
theorem dX5_weather_27 : decode cX5_weather 27 = .ok (.aload_n 0, 1) := by decide +kernel
theorem dX5_weather_28 : decode cX5_weather 28 = .ok (.getfield 19, 3) := by decide +kernel
theorem dX5_weather_31 : decode cX5_weather 31 = .ok (.iload_n 2, 1) := by decide +kernel
theorem dX5_weather_32 : decode cX5_weather 32 = .ok (.iload_n 1, 1) := by decide +kernel
theorem dX5_weather_33 : decode cX5_weather 33 = .ok (.ifCond .ge 19, 3) := by decide +kernel
theorem dX5_weather_36 : decode cX5_weather 36 = .ok (.bipush 60, 2) := by decide +kernel
theorem dX5_weather_38 : decode cX5_weather 38 = .ok (.aload_n 0, 1) := by decide +kernel
theorem dX5_weather_39 : decode cX5_weather 39 = .ok (.getfield 19, 3) := by decide +kernel
theorem dX5_weather_42 : decode cX5_weather 42 = .ok (.iload_n 2, 1) := by decide +kernel
theorem dX5_weather_43 : decode cX5_weather 43 = .ok (.iaload, 1) := by decide +kernel
theorem dX5_weather_44 : decode cX5_weather 44 = .ok (.iload_n 1, 1) := by decide +kernel
theorem dX5_weather_45 : decode cX5_weather 45 = .ok (.isub, 1) := by decide +kernel
theorem dX5_weather_46 : decode cX5_weather 46 = .ok (.invokestatic 55, 3) := by decide +kernel
theorem dX5_weather_49 : decode cX5_weather 49 = .ok (.goto 17, 3) := by decide +kernel
theorem dX5_weather_52 : decode cX5_weather 52 = .ok (.iconst 0, 1) := by decide +kernel
theorem dX5_weather_53 : decode cX5_weather 53 = .ok (.aload_n 0, 1) := by decide +kernel
theorem dX5_weather_54 : decode cX5_weather 54 = .ok (.getfield 19, 3) := by decide +kernel
theorem dX5_weather_57 : decode cX5_weather 57 = .ok (.iload_n 2, 1) := by decide +kernel
theorem dX5_weather_58 : decode cX5_weather 58 = .ok (.iaload, 1) := by decide +kernel
theorem dX5_weather_59 : decode cX5_weather 59 = .ok (.iconst 2, 1) := by decide +kernel
theorem dX5_weather_60 : decode cX5_weather 60 = .ok (.iload_n 1, 1) := by decide +kernel
theorem dX5_weather_61 : decode cX5_weather 61 = .ok (.imul, 1) := by decide +kernel
theorem dX5_weather_62 : decode cX5_weather 62 = .ok (.isub, 1) := by decide +kernel
theorem dX5_weather_63 : decode cX5_weather 63 = .ok (.invokestatic 60, 3) := by decide +kernel
theorem dX5_weather_66 : decode cX5_weather 66 = .ok (.iastore, 1) := by decide +kernel
theorem dX5_weather_67 : decode cX5_weather 67 = .ok (.iload_n 1, 1) := by decide +kernel
theorem dX5_weather_68 : decode cX5_weather 68 = .ok (.bipush (-3), 2) := by decide +kernel
theorem dX5_weather_70 : decode cX5_weather 70 = .ok (.if_icmp .gt 21, 3) := by decide +kernel
theorem dX5_weather_73 : decode cX5_weather 73 = .ok (.aload_n 0, 1) := by decide +kernel
theorem dX5_weather_74 : decode cX5_weather 74 = .ok (.getfield 23, 3) := by decide +kernel
theorem dX5_weather_77 : decode cX5_weather 77 = .ok (.iload_n 2, 1) := by decide +kernel
theorem dX5_weather_78 : decode cX5_weather 78 = .ok (.iconst 0, 1) := by decide +kernel
theorem dX5_weather_79 : decode cX5_weather 79 = .ok (.aload_n 0, 1) := by decide +kernel
theorem dX5_weather_80 : decode cX5_weather 80 = .ok (.getfield 23, 3) := by decide +kernel
theorem dX5_weather_83 : decode cX5_weather 83 = .ok (.iload_n 2, 1) := by decide +kernel
theorem dX5_weather_84 : decode cX5_weather 84 = .ok (.iaload, 1) := by decide +kernel
theorem dX5_weather_85 : decode cX5_weather 85 = .ok (.iconst 1, 1) := by decide +kernel
theorem dX5_weather_86 : decode cX5_weather 86 = .ok (.isub, 1) := by decide +kernel
theorem dX5_weather_87 : decode cX5_weather 87 = .ok (.invokestatic 60, 3) := by decide +kernel
theorem dX5_weather_90 : decode cX5_weather 90 = .ok (.iastore, 1) := by decide +kernel
theorem dX5_weather_91 : decode cX5_weather 91 = .ok (.iinc 2 1, 3) := by decide +kernel
theorem dX5_weather_94 : decode cX5_weather 94 = .ok (.goto (-73), 3) := by decide +kernel
theorem dX5_weather_97 : decode cX5_weather 97 = .ok (.return_, 1) := by decide +kernel
theorem dX5_listen_0 : decode cX5_listen 0 = .ok (.iconst 0, 1) := by decide +kernel
theorem dX5_listen_1 : decode cX5_listen 1 = .ok (.istore_n 1, 1) := by decide +kernel
theorem dX5_listen_2 : decode cX5_listen 2 = .ok (.iload_n 1, 1) := by decide +kernel
theorem dX5_listen_3 : decode cX5_listen 3 = .ok (.bipush 36, 2) := by decide +kernel
theorem dX5_listen_5 : decode cX5_listen 5 = .ok (.if_icmp .ge 55, 3) := by decide +kernel
theorem dX5_listen_8 : decode cX5_listen 8 = .ok (.aload_n 0, 1) := by decide +kernel
theorem dX5_listen_9 : decode cX5_listen 9 = .ok (.getfield 15, 3) := by decide +kernel
theorem dX5_listen_12 : decode cX5_listen 12 = .ok (.iconst (-1), 1) := by decide +kernel
theorem dX5_listen_13 : decode cX5_listen 13 = .ok (.if_icmp .ne 47, 3) := by decide +kernel
theorem dX5_listen_16 : decode cX5_listen 16 = .ok (.aload_n 0, 1) := by decide +kernel
theorem dX5_listen_17 : decode cX5_listen 17 = .ok (.getfield 19, 3) := by decide +kernel
theorem dX5_listen_20 : decode cX5_listen 20 = .ok (.iload_n 1, 1) := by decide +kernel
theorem dX5_listen_21 : decode cX5_listen 21 = .ok (.iaload, 1) := by decide +kernel
theorem dX5_listen_22 : decode cX5_listen 22 = .ok (.aload_n 0, 1) := by decide +kernel
theorem dX5_listen_23 : decode cX5_listen 23 = .ok (.getfield 19, 3) := by decide +kernel
theorem dX5_listen_26 : decode cX5_listen 26 = .ok (.iload_n 1, 1) := by decide +kernel
theorem dX5_listen_27 : decode cX5_listen 27 = .ok (.iconst 1, 1) := by decide +kernel
theorem dX5_listen_28 : decode cX5_listen 28 = .ok (.iadd, 1) := by decide +kernel
theorem dX5_listen_29 : decode cX5_listen 29 = .ok (.iaload, 1) := by decide +kernel
theorem dX5_listen_30 : decode cX5_listen 30 = .ok (.iadd, 1) := by decide +kernel
theorem dX5_listen_31 : decode cX5_listen 31 = .ok (.aload_n 0, 1) := by decide +kernel
theorem dX5_listen_32 : decode cX5_listen 32 = .ok (.getfield 19, 3) := by decide +kernel
theorem dX5_listen_35 : decode cX5_listen 35 = .ok (.iload_n 1, 1) := by decide +kernel
theorem dX5_listen_36 : decode cX5_listen 36 = .ok (.iconst 2, 1) := by decide +kernel
theorem dX5_listen_37 : decode cX5_listen 37 = .ok (.iadd, 1) := by decide +kernel
theorem dX5_listen_38 : decode cX5_listen 38 = .ok (.iaload, 1) := by decide +kernel
theorem dX5_listen_39 : decode cX5_listen 39 = .ok (.iadd, 1) := by decide +kernel
theorem dX5_listen_40 : decode cX5_listen 40 = .ok (.ifCond .ne 14, 3) := by decide +kernel
theorem dX5_listen_43 : decode cX5_listen 43 = .ok (.aload_n 0, 1) := by decide +kernel
theorem dX5_listen_44 : decode cX5_listen 44 = .ok (.aload_n 0, 1) := by decide +kernel
theorem dX5_listen_45 : decode cX5_listen 45 = .ok (.getfield 35, 3) := by decide +kernel
theorem dX5_listen_48 : decode cX5_listen 48 = .ok (.bipush 12, 2) := by decide +kernel
theorem dX5_listen_50 : decode cX5_listen 50 = .ok (.idiv, 1) := by decide +kernel
theorem dX5_listen_51 : decode cX5_listen 51 = .ok (.putfield 15, 3) := by decide +kernel
theorem dX5_listen_54 : decode cX5_listen 54 = .ok (.iinc 1 3, 3) := by decide +kernel
theorem dX5_listen_57 : decode cX5_listen 57 = .ok (.goto (-55), 3) := by decide +kernel
theorem dX5_listen_60 : decode cX5_listen 60 = .ok (.return_, 1) := by decide +kernel
set_option maxRecDepth 20000 in
theorem ggX5_next_X5_get : GoodIn wsX5_next wsX5_get := goodIn_r _ [12, 13, 24, 25, 26, 27, 28, 29, 30, 31] (by decide +kernel) (by decide +kernel)
set_option maxRecDepth 20000 in
theorem gX5_next_X5_get : GoodIn wsX5_next (wsV RX5 48 RX5 yX5_get wsX5_get) := goodIn_app (goodIn_of _ (by decide +kernel)) ggX5_next_X5_get
set_option maxRecDepth 20000 in
theorem ggX5_next_X5_holds : GoodIn wsX5_next wsX5_holds := goodIn_r _ [17, 18, 19, 24, 25, 26, 27, 28, 29, 30, 31] (by decide +kernel) (by decide +kernel)
set_option maxRecDepth 20000 in
theorem gX5_next_X5_holds : GoodIn wsX5_next (wsV RX5 63 RX5 yX5_holds wsX5_holds) := goodIn_app (goodIn_of _ (by decide +kernel)) ggX5_next_X5_holds
set_option maxRecDepth 20000 in
theorem ggX5_next_X5_load : GoodIn wsX5_next wsX5_load := goodIn_r _ [23, 8, 9, 10, 11, 12, 13, 24, 25, 26, 27, 28, 29, 30, 31] (by decide +kernel) (by decide +kernel)
set_option maxRecDepth 20000 in
theorem gX5_next_X5_load : GoodIn wsX5_next (wsV RX5 67 RX5 yX5_load wsX5_load) := goodIn_app (goodIn_of _ (by decide +kernel)) ggX5_next_X5_load
theorem dX5_next_0 : decode cX5_next 0 = .ok (.aload_n 0, 1) := by decide +kernel
theorem dX5_next_1 : decode cX5_next 1 = .ok (.iload_n 1, 1) := by decide +kernel
theorem dX5_next_2 : decode cX5_next 2 = .ok (.iconst 3, 1) := by decide +kernel
theorem dX5_next_3 : decode cX5_next 3 = .ok (.invokevirtual 48, 3) := by decide +kernel
theorem dX5_next_6 : decode cX5_next 6 = .ok (.istore_n 2, 1) := by decide +kernel
theorem dX5_next_7 : decode cX5_next 7 = .ok (.iload_n 2, 1) := by decide +kernel
theorem dX5_next_8 : decode cX5_next 8 = .ok (.aload_n 0, 1) := by decide +kernel
theorem dX5_next_9 : decode cX5_next 9 = .ok (.iload_n 1, 1) := by decide +kernel
theorem dX5_next_10 : decode cX5_next 10 = .ok (.iconst 5, 1) := by decide +kernel
theorem dX5_next_11 : decode cX5_next 11 = .ok (.invokevirtual 48, 3) := by decide +kernel
theorem dX5_next_14 : decode cX5_next 14 = .ok (.if_icmp .ge 9, 3) := by decide +kernel
theorem dX5_next_17 : decode cX5_next 17 = .ok (.iload_n 2, 1) := by decide +kernel
theorem dX5_next_18 : decode cX5_next 18 = .ok (.iconst 1, 1) := by decide +kernel
theorem dX5_next_19 : decode cX5_next 19 = .ok (.iadd, 1) := by decide +kernel
theorem dX5_next_20 : decode cX5_next 20 = .ok (.goto 6, 3) := by decide +kernel
theorem dX5_next_23 : decode cX5_next 23 = .ok (.iload_n 2, 1) := by decide +kernel
theorem dX5_next_24 : decode cX5_next 24 = .ok (.iconst 1, 1) := by decide +kernel
theorem dX5_next_25 : decode cX5_next 25 = .ok (.isub, 1) := by decide +kernel
theorem dX5_next_26 : decode cX5_next 26 = .ok (.istore_n 3, 1) := by decide +kernel
theorem dX5_next_27 : decode cX5_next 27 = .ok (.iconst (-1), 1) := by decide +kernel
theorem dX5_next_28 : decode cX5_next 28 = .ok (.istore 4, 2) := by decide +kernel
theorem dX5_next_30 : decode cX5_next 30 = .ok (.iconst 0, 1) := by decide +kernel
theorem dX5_next_31 : decode cX5_next 31 = .ok (.aload_n 0, 1) := by decide +kernel
theorem dX5_next_32 : decode cX5_next 32 = .ok (.iload_n 1, 1) := by decide +kernel
theorem dX5_next_33 : decode cX5_next 33 = .ok (.iconst 4, 1) := by decide +kernel
theorem dX5_next_34 : decode cX5_next 34 = .ok (.invokevirtual 48, 3) := by decide +kernel
theorem dX5_next_37 : decode cX5_next 37 = .ok (.iconst 1, 1) := by decide +kernel
theorem dX5_next_38 : decode cX5_next 38 = .ok (.isub, 1) := by decide +kernel
theorem dX5_next_39 : decode cX5_next 39 = .ok (.invokestatic 60, 3) := by decide +kernel
theorem dX5_next_42 : decode cX5_next 42 = .ok (.istore 5, 2) := by decide +kernel
theorem dX5_next_44 : decode cX5_next 44 = .ok (.iload 5, 2) := by decide +kernel
theorem dX5_next_46 : decode cX5_next 46 = .ok (.iconst 2, 1) := by decide +kernel
theorem dX5_next_47 : decode cX5_next 47 = .ok (.aload_n 0, 1) := by decide +kernel
theorem dX5_next_48 : decode cX5_next 48 = .ok (.iload_n 1, 1) := by decide +kernel
theorem dX5_next_49 : decode cX5_next 49 = .ok (.iconst 4, 1) := by decide +kernel
theorem dX5_next_50 : decode cX5_next 50 = .ok (.invokevirtual 48, 3) := by decide +kernel
theorem dX5_next_53 : decode cX5_next 53 = .ok (.iconst 1, 1) := by decide +kernel
theorem dX5_next_54 : decode cX5_next 54 = .ok (.iadd, 1) := by decide +kernel
theorem dX5_next_55 : decode cX5_next 55 = .ok (.invokestatic 55, 3) := by decide +kernel
theorem dX5_next_58 : decode cX5_next 58 = .ok (.if_icmp .gt 59, 3) := by decide +kernel
theorem dX5_next_61 : decode cX5_next 61 = .ok (.iconst 3, 1) := by decide +kernel
theorem dX5_next_62 : decode cX5_next 62 = .ok (.iload_n 3, 1) := by decide +kernel
theorem dX5_next_63 : decode cX5_next 63 = .ok (.imul, 1) := by decide +kernel
theorem dX5_next_64 : decode cX5_next 64 = .ok (.iload 5, 2) := by decide +kernel
theorem dX5_next_66 : decode cX5_next 66 = .ok (.iadd, 1) := by decide +kernel
theorem dX5_next_67 : decode cX5_next 67 = .ok (.istore 6, 2) := by decide +kernel
theorem dX5_next_69 : decode cX5_next 69 = .ok (.aload_n 0, 1) := by decide +kernel
theorem dX5_next_70 : decode cX5_next 70 = .ok (.iload 6, 2) := by decide +kernel
theorem dX5_next_72 : decode cX5_next 72 = .ok (.invokevirtual 63, 3) := by decide +kernel
theorem dX5_next_75 : decode cX5_next 75 = .ok (.aload_n 0, 1) := by decide +kernel
theorem dX5_next_76 : decode cX5_next 76 = .ok (.iload_n 1, 1) := by decide +kernel
theorem dX5_next_77 : decode cX5_next 77 = .ok (.invokevirtual 67, 3) := by decide +kernel
theorem dX5_next_80 : decode cX5_next 80 = .ok (.if_icmp .ge 6, 3) := by decide +kernel
theorem dX5_next_83 : decode cX5_next 83 = .ok (.goto 28, 3) := by decide +kernel
theorem dX5_next_86 : decode cX5_next 86 = .ok (.iload 4, 2) := by decide +kernel
theorem dX5_next_88 : decode cX5_next 88 = .ok (.iconst (-1), 1) := by decide +kernel
theorem dX5_next_89 : decode cX5_next 89 = .ok (.if_icmp .eq 18, 3) := by decide +kernel
theorem dX5_next_92 : decode cX5_next 92 = .ok (.aload_n 0, 1) := by decide +kernel
theorem dX5_next_93 : decode cX5_next 93 = .ok (.iload 6, 2) := by decide +kernel
theorem dX5_next_95 : decode cX5_next 95 = .ok (.invokevirtual 63, 3) := by decide +kernel
theorem dX5_next_98 : decode cX5_next 98 = .ok (.aload_n 0, 1) := by decide +kernel
theorem dX5_next_99 : decode cX5_next 99 = .ok (.iload 4, 2) := by decide +kernel
theorem dX5_next_101 : decode cX5_next 101 = .ok (.invokevirtual 63, 3) := by decide +kernel
theorem dX5_next_104 : decode cX5_next 104 = .ok (.if_icmp .le 7, 3) := by decide +kernel
theorem dX5_next_107 : decode cX5_next 107 = .ok (.iload 6, 2) := by decide +kernel
theorem dX5_next_109 : decode cX5_next 109 = .ok (.istore 4, 2) := by decide +kernel
theorem dX5_next_111 : decode cX5_next 111 = .ok (.iinc 5 1, 3) := by decide +kernel
theorem dX5_next_114 : decode cX5_next 114 = .ok (.goto (-70), 3) := by decide +kernel
theorem dX5_next_117 : decode cX5_next 117 = .ok (.iload 4, 2) := by decide +kernel
theorem dX5_next_119 : decode cX5_next 119 = .ok (.ireturn, 1) := by decide +kernel
set_option maxRecDepth 20000 in
theorem ggX5_step_X5_get : GoodIn wsX5_step wsX5_get := goodIn_r _ [12, 13, 33, 34, 35, 36, 37, 38, 39, 40] (by decide +kernel) (by decide +kernel)
set_option maxRecDepth 20000 in
theorem gX5_step_X5_get : GoodIn wsX5_step (wsV RX5 48 RX5 yX5_get wsX5_get) := goodIn_app (goodIn_of _ (by decide +kernel)) ggX5_step_X5_get
set_option maxRecDepth 20000 in
theorem ggX5_step_X5_next : GoodIn wsX5_step wsX5_next := goodIn_r _ [17, 18, 19, 4, 20, 2, 3, 5, 8, 9, 10, 11, 12, 13, 21, 22, 23, 24, 6, 1, 25, 26, 27, 28, 33, 34, 35, 36, 37, 38, 39, 40] (by decide +kernel) (by decide +kernel)
set_option maxRecDepth 20000 in
theorem gX5_step_X5_next : GoodIn wsX5_step (wsV RX5 70 RX5 yX5_next wsX5_next) := goodIn_app (goodIn_of _ (by decide +kernel)) ggX5_step_X5_next
set_option maxRecDepth 20000 in
theorem ggX5_step_X5_set : GoodIn wsX5_step wsX5_set := goodIn_r _ [32, 13, 33, 34, 35, 36, 37, 38, 39, 40] (by decide +kernel) (by decide +kernel)
set_option maxRecDepth 20000 in
theorem gX5_step_X5_set : GoodIn wsX5_step (wsV RX5 73 RX5 yX5_set wsX5_set) := goodIn_app (goodIn_of _ (by decide +kernel)) ggX5_step_X5_set
set_option maxRecDepth 20000 in
theorem ggX5_step_X5_holds : GoodIn wsX5_step wsX5_holds := goodIn_r _ [24, 6, 1, 33, 34, 35, 36, 37, 38, 39, 40] (by decide +kernel) (by decide +kernel)
set_option maxRecDepth 20000 in
theorem gX5_step_X5_holds : GoodIn wsX5_step (wsV RX5 63 RX5 yX5_holds wsX5_holds) := goodIn_app (goodIn_of _ (by decide +kernel)) ggX5_step_X5_holds
set_option maxRecDepth 20000 in
theorem ggX5_step_X5_load : GoodIn wsX5_step wsX5_load := goodIn_r _ [28, 8, 9, 10, 11, 12, 13, 33, 34, 35, 36, 37, 38, 39, 40] (by decide +kernel) (by decide +kernel)
set_option maxRecDepth 20000 in
theorem gX5_step_X5_load : GoodIn wsX5_step (wsV RX5 67 RX5 yX5_load wsX5_load) := goodIn_app (goodIn_of _ (by decide +kernel)) ggX5_step_X5_load
theorem dX5_step_0 : decode cX5_step 0 = .ok (.aload_n 0, 1) := by decide +kernel
theorem dX5_step_1 : decode cX5_step 1 = .ok (.iload_n 1, 1) := by decide +kernel
theorem dX5_step_2 : decode cX5_step 2 = .ok (.iconst 2, 1) := by decide +kernel
theorem dX5_step_3 : decode cX5_step 3 = .ok (.invokevirtual 48, 3) := by decide +kernel
theorem dX5_step_6 : decode cX5_step 6 = .ok (.ifCond .ne 7, 3) := by decide +kernel
theorem dX5_step_9 : decode cX5_step 9 = .ok (.iconst (-1), 1) := by decide +kernel
theorem dX5_step_10 : decode cX5_step 10 = .ok (.goto 8, 3) := by decide +kernel
theorem dX5_step_13 : decode cX5_step 13 = .ok (.aload_n 0, 1) := by decide +kernel
theorem dX5_step_14 : decode cX5_step 14 = .ok (.iload_n 1, 1) := by decide +kernel
theorem dX5_step_15 : decode cX5_step 15 = .ok (.invokevirtual 70, 3) := by decide +kernel
theorem dX5_step_18 : decode cX5_step 18 = .ok (.istore_n 2, 1) := by decide +kernel
theorem dX5_step_19 : decode cX5_step 19 = .ok (.iload_n 2, 1) := by decide +kernel
theorem dX5_step_20 : decode cX5_step 20 = .ok (.iconst (-1), 1) := by decide +kernel
theorem dX5_step_21 : decode cX5_step 21 = .ok (.if_icmp .ne 12, 3) := by decide +kernel
theorem dX5_step_24 : decode cX5_step 24 = .ok (.aload_n 0, 1) := by decide +kernel
theorem dX5_step_25 : decode cX5_step 25 = .ok (.iload_n 1, 1) := by decide +kernel
theorem dX5_step_26 : decode cX5_step 26 = .ok (.bipush 6, 2) := by decide +kernel
theorem dX5_step_28 : decode cX5_step 28 = .ok (.iconst 0, 1) := by decide +kernel
theorem dX5_step_29 : decode cX5_step 29 = .ok (.invokevirtual 73, 3) := by decide +kernel
theorem dX5_step_32 : decode cX5_step 32 = .ok (.return_, 1) := by decide +kernel
theorem dX5_step_33 : decode cX5_step 33 = .ok (.aload_n 0, 1) := by decide +kernel
theorem dX5_step_34 : decode cX5_step 34 = .ok (.iload_n 1, 1) := by decide +kernel
theorem dX5_step_35 : decode cX5_step 35 = .ok (.iconst 2, 1) := by decide +kernel
theorem dX5_step_36 : decode cX5_step 36 = .ok (.aload_n 0, 1) := by decide +kernel
theorem dX5_step_37 : decode cX5_step 37 = .ok (.iload_n 1, 1) := by decide +kernel
theorem dX5_step_38 : decode cX5_step 38 = .ok (.iconst 2, 1) := by decide +kernel
theorem dX5_step_39 : decode cX5_step 39 = .ok (.invokevirtual 48, 3) := by decide +kernel
theorem dX5_step_42 : decode cX5_step 42 = .ok (.iconst 1, 1) := by decide +kernel
theorem dX5_step_43 : decode cX5_step 43 = .ok (.isub, 1) := by decide +kernel
theorem dX5_step_44 : decode cX5_step 44 = .ok (.invokevirtual 73, 3) := by decide +kernel
theorem dX5_step_47 : decode cX5_step 47 = .ok (.aload_n 0, 1) := by decide +kernel
theorem dX5_step_48 : decode cX5_step 48 = .ok (.iload_n 1, 1) := by decide +kernel
theorem dX5_step_49 : decode cX5_step 49 = .ok (.bipush 7, 2) := by decide +kernel
theorem dX5_step_51 : decode cX5_step 51 = .ok (.aload_n 0, 1) := by decide +kernel
theorem dX5_step_52 : decode cX5_step 52 = .ok (.iload_n 1, 1) := by decide +kernel
theorem dX5_step_53 : decode cX5_step 53 = .ok (.bipush 7, 2) := by decide +kernel
theorem dX5_step_55 : decode cX5_step 55 = .ok (.invokevirtual 48, 3) := by decide +kernel
theorem dX5_step_58 : decode cX5_step 58 = .ok (.iconst 1, 1) := by decide +kernel
theorem dX5_step_59 : decode cX5_step 59 = .ok (.iadd, 1) := by decide +kernel
theorem dX5_step_60 : decode cX5_step 60 = .ok (.invokevirtual 73, 3) := by decide +kernel
theorem dX5_step_63 : decode cX5_step 63 = .ok (.aload_n 0, 1) := by decide +kernel
theorem dX5_step_64 : decode cX5_step 64 = .ok (.iload_n 1, 1) := by decide +kernel
theorem dX5_step_65 : decode cX5_step 65 = .ok (.iconst 3, 1) := by decide +kernel
theorem dX5_step_66 : decode cX5_step 66 = .ok (.iload_n 2, 1) := by decide +kernel
theorem dX5_step_67 : decode cX5_step 67 = .ok (.iconst 3, 1) := by decide +kernel
theorem dX5_step_68 : decode cX5_step 68 = .ok (.idiv, 1) := by decide +kernel
theorem dX5_step_69 : decode cX5_step 69 = .ok (.invokevirtual 73, 3) := by decide +kernel
theorem dX5_step_72 : decode cX5_step 72 = .ok (.aload_n 0, 1) := by decide +kernel
theorem dX5_step_73 : decode cX5_step 73 = .ok (.iload_n 1, 1) := by decide +kernel
theorem dX5_step_74 : decode cX5_step 74 = .ok (.iconst 4, 1) := by decide +kernel
theorem dX5_step_75 : decode cX5_step 75 = .ok (.iload_n 2, 1) := by decide +kernel
theorem dX5_step_76 : decode cX5_step 76 = .ok (.iconst 3, 1) := by decide +kernel
theorem dX5_step_77 : decode cX5_step 77 = .ok (.irem, 1) := by decide +kernel
theorem dX5_step_78 : decode cX5_step 78 = .ok (.invokevirtual 73, 3) := by decide +kernel
theorem dX5_step_81 : decode cX5_step 81 = .ok (.aload_n 0, 1) := by decide +kernel
theorem dX5_step_82 : decode cX5_step 82 = .ok (.iload_n 2, 1) := by decide +kernel
theorem dX5_step_83 : decode cX5_step 83 = .ok (.invokevirtual 63, 3) := by decide +kernel
theorem dX5_step_86 : decode cX5_step 86 = .ok (.iconst 2, 1) := by decide +kernel
theorem dX5_step_87 : decode cX5_step 87 = .ok (.aload_n 0, 1) := by decide +kernel
theorem dX5_step_88 : decode cX5_step 88 = .ok (.iload_n 1, 1) := by decide +kernel
theorem dX5_step_89 : decode cX5_step 89 = .ok (.invokevirtual 67, 3) := by decide +kernel
theorem dX5_step_92 : decode cX5_step 92 = .ok (.imul, 1) := by decide +kernel
theorem dX5_step_93 : decode cX5_step 93 = .ok (.if_icmp .ge 22, 3) := by decide +kernel
theorem dX5_step_96 : decode cX5_step 96 = .ok (.aload_n 0, 1) := by decide +kernel
theorem dX5_step_97 : decode cX5_step 97 = .ok (.getfield 23, 3) := by decide +kernel
theorem dX5_step_100 : decode cX5_step 100 = .ok (.iload_n 2, 1) := by decide +kernel
theorem dX5_step_101 : decode cX5_step 101 = .ok (.bipush 9, 2) := by decide +kernel
theorem dX5_step_103 : decode cX5_step 103 = .ok (.aload_n 0, 1) := by decide +kernel
theorem dX5_step_104 : decode cX5_step 104 = .ok (.getfield 23, 3) := by decide +kernel
theorem dX5_step_107 : decode cX5_step 107 = .ok (.iload_n 2, 1) := by decide +kernel
theorem dX5_step_108 : decode cX5_step 108 = .ok (.iaload, 1) := by decide +kernel
theorem dX5_step_109 : decode cX5_step 109 = .ok (.iconst 1, 1) := by decide +kernel
theorem dX5_step_110 : decode cX5_step 110 = .ok (.iadd, 1) := by decide +kernel
theorem dX5_step_111 : decode cX5_step 111 = .ok (.invokestatic 55, 3) := by decide +kernel
theorem dX5_step_114 : decode cX5_step 114 = .ok (.iastore, 1) := by decide +kernel
theorem dX5_step_115 : decode cX5_step 115 = .ok (.aload_n 0, 1) := by decide +kernel
theorem dX5_step_116 : decode cX5_step 116 = .ok (.iload_n 2, 1) := by decide +kernel
theorem dX5_step_117 : decode cX5_step 117 = .ok (.invokevirtual 63, 3) := by decide +kernel
theorem dX5_step_120 : decode cX5_step 120 = .ok (.aload_n 0, 1) := by decide +kernel
theorem dX5_step_121 : decode cX5_step 121 = .ok (.iload_n 1, 1) := by decide +kernel
theorem dX5_step_122 : decode cX5_step 122 = .ok (.invokevirtual 67, 3) := by decide +kernel
theorem dX5_step_125 : decode cX5_step 125 = .ok (.if_icmp .ge 28, 3) := by decide +kernel
theorem dX5_step_128 : decode cX5_step 128 = .ok (.aload_n 0, 1) := by decide +kernel
theorem dX5_step_129 : decode cX5_step 129 = .ok (.iload_n 1, 1) := by decide +kernel
theorem dX5_step_130 : decode cX5_step 130 = .ok (.bipush 6, 2) := by decide +kernel
theorem dX5_step_132 : decode cX5_step 132 = .ok (.iconst 3, 1) := by decide +kernel
theorem dX5_step_133 : decode cX5_step 133 = .ok (.invokevirtual 73, 3) := by decide +kernel
theorem dX5_step_136 : decode cX5_step 136 = .ok (.aload_n 0, 1) := by decide +kernel
theorem dX5_step_137 : decode cX5_step 137 = .ok (.iload_n 1, 1) := by decide +kernel
theorem dX5_step_138 : decode cX5_step 138 = .ok (.iconst 1, 1) := by decide +kernel
theorem dX5_step_139 : decode cX5_step 139 = .ok (.iconst 0, 1) := by decide +kernel
theorem dX5_step_140 : decode cX5_step 140 = .ok (.invokevirtual 73, 3) := by decide +kernel
theorem dX5_step_143 : decode cX5_step 143 = .ok (.aload_n 0, 1) := by decide +kernel
theorem dX5_step_144 : decode cX5_step 144 = .ok (.getfield 19, 3) := by decide +kernel
theorem dX5_step_147 : decode cX5_step 147 = .ok (.iload_n 2, 1) := by decide +kernel
theorem dX5_step_148 : decode cX5_step 148 = .ok (.iconst 0, 1) := by decide +kernel
theorem dX5_step_149 : decode cX5_step 149 = .ok (.iastore, 1) := by decide +kernel
theorem dX5_step_150 : decode cX5_step 150 = .ok (.goto 33, 3) := by decide +kernel
theorem dX5_step_153 : decode cX5_step 153 = .ok (.iload_n 2, 1) := by decide +kernel
theorem dX5_step_154 : decode cX5_step 154 = .ok (.iconst 3, 1) := by decide +kernel
theorem dX5_step_155 : decode cX5_step 155 = .ok (.idiv, 1) := by decide +kernel
theorem dX5_step_156 : decode cX5_step 156 = .ok (.aload_n 0, 1) := by decide +kernel
theorem dX5_step_157 : decode cX5_step 157 = .ok (.iload_n 1, 1) := by decide +kernel
theorem dX5_step_158 : decode cX5_step 158 = .ok (.iconst 5, 1) := by decide +kernel
theorem dX5_step_159 : decode cX5_step 159 = .ok (.invokevirtual 48, 3) := by decide +kernel
theorem dX5_step_162 : decode cX5_step 162 = .ok (.if_icmp .ne 21, 3) := by decide +kernel
theorem dX5_step_165 : decode cX5_step 165 = .ok (.aload_n 0, 1) := by decide +kernel
theorem dX5_step_166 : decode cX5_step 166 = .ok (.iload_n 1, 1) := by decide +kernel
theorem dX5_step_167 : decode cX5_step 167 = .ok (.bipush 6, 2) := by decide +kernel
theorem dX5_step_169 : decode cX5_step 169 = .ok (.iconst 2, 1) := by decide +kernel
theorem dX5_step_170 : decode cX5_step 170 = .ok (.invokevirtual 73, 3) := by decide +kernel
theorem dX5_step_173 : decode cX5_step 173 = .ok (.aload_n 0, 1) := by decide +kernel
theorem dX5_step_174 : decode cX5_step 174 = .ok (.dup, 1) := by decide +kernel
theorem dX5_step_175 : decode cX5_step 175 = .ok (.getfield 41, 3) := by decide +kernel
theorem dX5_step_178 : decode cX5_step 178 = .ok (.iconst 1, 1) := by decide +kernel
theorem dX5_step_179 : decode cX5_step 179 = .ok (.iadd, 1) := by decide +kernel
theorem dX5_step_180 : decode cX5_step 180 = .ok (.putfield 41, 3) := by decide +kernel
theorem dX5_step_183 : decode cX5_step 183 = .ok (.return_, 1) := by decide +kernel
set_option maxRecDepth 20000 in
theorem ggX5_pass_X5_weather : GoodIn wsX5_pass wsX5_weather := goodIn_r _ [12, 3, 1, 13, 4, 5, 6, 7, 14, 15, 16, 17, 49, 50, 51, 52, 53, 54, 55, 56, 57, 58, 59, 60, 61, 62, 63, 64] (by decide +kernel) (by decide +kernel)
set_option maxRecDepth 20000 in
theorem gX5_pass_X5_weather : GoodIn wsX5_pass (wsV RX5 77 RX5 yX5_weather wsX5_weather) := goodIn_app (goodIn_of _ (by decide +kernel)) ggX5_pass_X5_weather
set_option maxRecDepth 20000 in
theorem ggX5_pass_X5_listen : GoodIn wsX5_pass wsX5_listen := goodIn_r _ [21, 22, 13, 1, 49, 50, 51, 52, 53, 54, 55, 56] (by decide +kernel) (by decide +kernel)
set_option maxRecDepth 20000 in
theorem gX5_pass_X5_listen : GoodIn wsX5_pass (wsV RX5 80 RX5 yX5_listen wsX5_listen) := goodIn_app (goodIn_of _ (by decide +kernel)) ggX5_pass_X5_listen
set_option maxRecDepth 20000 in
theorem ggX5_pass_X5_get : GoodIn wsX5_pass wsX5_get := goodIn_r _ [26, 27, 49, 50, 51, 52, 53, 54, 55, 56] (by decide +kernel) (by decide +kernel)
set_option maxRecDepth 20000 in
theorem gX5_pass_X5_get : GoodIn wsX5_pass (wsV RX5 48 RX5 yX5_get wsX5_get) := goodIn_app (goodIn_of _ (by decide +kernel)) ggX5_pass_X5_get
set_option maxRecDepth 20000 in
theorem ggX5_pass_X5_step : GoodIn wsX5_pass wsX5_step := goodIn_r _ [31, 17, 4, 5, 6, 7, 13, 32, 23, 24, 25, 11, 26, 27, 33, 34, 35, 36, 14, 15, 16, 37, 38, 39, 40, 41, 42, 43, 44, 45, 46, 47, 48, 49, 50, 51, 52, 53, 54, 55, 56] (by decide +kernel) (by decide +kernel)
set_option maxRecDepth 20000 in
theorem gX5_pass_X5_step : GoodIn wsX5_pass (wsV RX5 83 RX5 yX5_step wsX5_step) := goodIn_app (goodIn_of _ (by decide +kernel)) ggX5_pass_X5_step
set_option maxRecDepth 20000 in
theorem ggX5_pass_X5_set : GoodIn wsX5_pass wsX5_set := goodIn_r _ [48, 27, 49, 50, 51, 52, 53, 54, 55, 56] (by decide +kernel) (by decide +kernel)
set_option maxRecDepth 20000 in
theorem gX5_pass_X5_set : GoodIn wsX5_pass (wsV RX5 73 RX5 yX5_set wsX5_set) := goodIn_app (goodIn_of _ (by decide +kernel)) ggX5_pass_X5_set
theorem dX5_pass_0 : decode cX5_pass 0 = .ok (.aload_n 0, 1) := by decide +kernel
theorem dX5_pass_1 : decode cX5_pass 1 = .ok (.getfield 35, 3) := by decide +kernel
theorem dX5_pass_4 : decode cX5_pass 4 = .ok (.bipush 12, 2) := by decide +kernel
theorem dX5_pass_6 : decode cX5_pass 6 = .ok (.irem, 1) := by decide +kernel
theorem dX5_pass_7 : decode cX5_pass 7 = .ok (.ifCond .ne 7, 3) := by decide +kernel
theorem dX5_pass_10 : decode cX5_pass 10 = .ok (.aload_n 0, 1) := by decide +kernel
theorem dX5_pass_11 : decode cX5_pass 11 = .ok (.invokevirtual 77, 3) := by decide +kernel
theorem dX5_pass_14 : decode cX5_pass 14 = .ok (.aload_n 0, 1) := by decide +kernel
theorem dX5_pass_15 : decode cX5_pass 15 = .ok (.invokevirtual 80, 3) := by decide +kernel
theorem dX5_pass_18 : decode cX5_pass 18 = .ok (.iconst 0, 1) := by decide +kernel
theorem dX5_pass_19 : decode cX5_pass 19 = .ok (.istore_n 1, 1) := by decide +kernel
theorem dX5_pass_20 : decode cX5_pass 20 = .ok (.iload_n 1, 1) := by decide +kernel
theorem dX5_pass_21 : decode cX5_pass 21 = .ok (.aload_n 0, 1) := by decide +kernel
theorem dX5_pass_22 : decode cX5_pass 22 = .ok (.getfield 38, 3) := by decide +kernel
theorem dX5_pass_25 : decode cX5_pass 25 = .ok (.if_icmp .ge 44, 3) := by decide +kernel
theorem dX5_pass_28 : decode cX5_pass 28 = .ok (.iconst 0, 1) := by decide +kernel
theorem dX5_pass_29 : decode cX5_pass 29 = .ok (.istore_n 2, 1) := by decide +kernel
theorem dX5_pass_30 : decode cX5_pass 30 = .ok (.iload_n 2, 1) := by decide +kernel
theorem dX5_pass_31 : decode cX5_pass 31 = .ok (.aload_n 0, 1) := by decide +kernel
theorem dX5_pass_32 : decode cX5_pass 32 = .ok (.iload_n 1, 1) := by decide +kernel
theorem dX5_pass_33 : decode cX5_pass 33 = .ok (.bipush 8, 2) := by decide +kernel
theorem dX5_pass_35 : decode cX5_pass 35 = .ok (.invokevirtual 48, 3) := by decide +kernel
theorem dX5_pass_38 : decode cX5_pass 38 = .ok (.if_icmp .gt 25, 3) := by decide +kernel
theorem dX5_pass_41 : decode cX5_pass 41 = .ok (.aload_n 0, 1) := by decide +kernel
theorem dX5_pass_42 : decode cX5_pass 42 = .ok (.iload_n 1, 1) := by decide +kernel
theorem dX5_pass_43 : decode cX5_pass 43 = .ok (.bipush 6, 2) := by decide +kernel
theorem dX5_pass_45 : decode cX5_pass 45 = .ok (.invokevirtual 48, 3) := by decide +kernel
theorem dX5_pass_48 : decode cX5_pass 48 = .ok (.iconst 1, 1) := by decide +kernel
theorem dX5_pass_49 : decode cX5_pass 49 = .ok (.if_icmp .ne 14, 3) := by decide +kernel
theorem dX5_pass_52 : decode cX5_pass 52 = .ok (.aload_n 0, 1) := by decide +kernel
theorem dX5_pass_53 : decode cX5_pass 53 = .ok (.iload_n 1, 1) := by decide +kernel
theorem dX5_pass_54 : decode cX5_pass 54 = .ok (.invokevirtual 83, 3) := by decide +kernel
theorem dX5_pass_57 : decode cX5_pass 57 = .ok (.iinc 2 1, 3) := by decide +kernel
theorem dX5_pass_60 : decode cX5_pass 60 = .ok (.goto (-30), 3) := by decide +kernel
theorem dX5_pass_63 : decode cX5_pass 63 = .ok (.iinc 1 1, 3) := by decide +kernel
theorem dX5_pass_66 : decode cX5_pass 66 = .ok (.goto (-46), 3) := by decide +kernel
theorem dX5_pass_69 : decode cX5_pass 69 = .ok (.iconst 0, 1) := by decide +kernel
theorem dX5_pass_70 : decode cX5_pass 70 = .ok (.istore_n 1, 1) := by decide +kernel
theorem dX5_pass_71 : decode cX5_pass 71 = .ok (.iload_n 1, 1) := by decide +kernel
theorem dX5_pass_72 : decode cX5_pass 72 = .ok (.aload_n 0, 1) := by decide +kernel
theorem dX5_pass_73 : decode cX5_pass 73 = .ok (.getfield 38, 3) := by decide +kernel
theorem dX5_pass_76 : decode cX5_pass 76 = .ok (.if_icmp .ge 92, 3) := by decide +kernel
theorem dX5_pass_79 : decode cX5_pass 79 = .ok (.aload_n 0, 1) := by decide +kernel
theorem dX5_pass_80 : decode cX5_pass 80 = .ok (.iload_n 1, 1) := by decide +kernel
theorem dX5_pass_81 : decode cX5_pass 81 = .ok (.bipush 6, 2) := by decide +kernel
theorem dX5_pass_83 : decode cX5_pass 83 = .ok (.invokevirtual 48, 3) := by decide +kernel
theorem dX5_pass_86 : decode cX5_pass 86 = .ok (.ifCond .eq 6, 3) := by decide +kernel
theorem dX5_pass_89 : decode cX5_pass 89 = .ok (.goto 73, 3) := by decide +kernel
theorem dX5_pass_92 : decode cX5_pass 92 = .ok (.aload_n 0, 1) := by decide +kernel
theorem dX5_pass_93 : decode cX5_pass 93 = .ok (.iload_n 1, 1) := by decide +kernel
theorem dX5_pass_94 : decode cX5_pass 94 = .ok (.iconst 2, 1) := by decide +kernel
theorem dX5_pass_95 : decode cX5_pass 95 = .ok (.bipush 20, 2) := by decide +kernel
theorem dX5_pass_97 : decode cX5_pass 97 = .ok (.aload_n 0, 1) := by decide +kernel
theorem dX5_pass_98 : decode cX5_pass 98 = .ok (.iload_n 1, 1) := by decide +kernel
theorem dX5_pass_99 : decode cX5_pass 99 = .ok (.iconst 2, 1) := by decide +kernel
theorem dX5_pass_100 : decode cX5_pass 100 = .ok (.invokevirtual 48, 3) := by decide +kernel
theorem dX5_pass_103 : decode cX5_pass 103 = .ok (.iconst 1, 1) := by decide +kernel
theorem dX5_pass_104 : decode cX5_pass 104 = .ok (.iadd, 1) := by decide +kernel
theorem dX5_pass_105 : decode cX5_pass 105 = .ok (.iconst 4, 1) := by decide +kernel
theorem dX5_pass_106 : decode cX5_pass 106 = .ok (.aload_n 0, 1) := by decide +kernel
theorem dX5_pass_107 : decode cX5_pass 107 = .ok (.getfield 3, 3) := by decide +kernel
theorem dX5_pass_110 : decode cX5_pass 110 = .ok (.getfield 87, 3) := by decide +kernel
theorem dX5_pass_113 : decode cX5_pass 113 = .ok (.aload_n 0, 1) := by decide +kernel
theorem dX5_pass_114 : decode cX5_pass 114 = .ok (.iload_n 1, 1) := by decide +kernel
theorem dX5_pass_115 : decode cX5_pass 115 = .ok (.iconst 3, 1) := by decide +kernel
theorem dX5_pass_116 : decode cX5_pass 116 = .ok (.invokevirtual 48, 3) := by decide +kernel
theorem dX5_pass_119 : decode cX5_pass 119 = .ok (.iaload, 1) := by decide +kernel
theorem dX5_pass_120 : decode cX5_pass 120 = .ok (.imul, 1) := by decide +kernel
theorem dX5_pass_121 : decode cX5_pass 121 = .ok (.iadd, 1) := by decide +kernel
theorem dX5_pass_122 : decode cX5_pass 122 = .ok (.invokestatic 55, 3) := by decide +kernel
theorem dX5_pass_125 : decode cX5_pass 125 = .ok (.invokevirtual 73, 3) := by decide +kernel
theorem dX5_pass_128 : decode cX5_pass 128 = .ok (.aload_n 0, 1) := by decide +kernel
theorem dX5_pass_129 : decode cX5_pass 129 = .ok (.iload_n 1, 1) := by decide +kernel
theorem dX5_pass_130 : decode cX5_pass 130 = .ok (.iconst 5, 1) := by decide +kernel
theorem dX5_pass_131 : decode cX5_pass 131 = .ok (.invokevirtual 48, 3) := by decide +kernel
theorem dX5_pass_134 : decode cX5_pass 134 = .ok (.aload_n 0, 1) := by decide +kernel
theorem dX5_pass_135 : decode cX5_pass 135 = .ok (.iload_n 1, 1) := by decide +kernel
theorem dX5_pass_136 : decode cX5_pass 136 = .ok (.iconst 3, 1) := by decide +kernel
theorem dX5_pass_137 : decode cX5_pass 137 = .ok (.invokevirtual 48, 3) := by decide +kernel
theorem dX5_pass_140 : decode cX5_pass 140 = .ok (.if_icmp .eq 22, 3) := by decide +kernel
theorem dX5_pass_143 : decode cX5_pass 143 = .ok (.aload_n 0, 1) := by decide +kernel
theorem dX5_pass_144 : decode cX5_pass 144 = .ok (.iload_n 1, 1) := by decide +kernel
theorem dX5_pass_145 : decode cX5_pass 145 = .ok (.iconst 2, 1) := by decide +kernel
theorem dX5_pass_146 : decode cX5_pass 146 = .ok (.invokevirtual 48, 3) := by decide +kernel
theorem dX5_pass_149 : decode cX5_pass 149 = .ok (.bipush 10, 2) := by decide +kernel
theorem dX5_pass_151 : decode cX5_pass 151 = .ok (.if_icmp .lt 11, 3) := by decide +kernel
theorem dX5_pass_154 : decode cX5_pass 154 = .ok (.aload_n 0, 1) := by decide +kernel
theorem dX5_pass_155 : decode cX5_pass 155 = .ok (.iload_n 1, 1) := by decide +kernel
theorem dX5_pass_156 : decode cX5_pass 156 = .ok (.bipush 6, 2) := by decide +kernel
theorem dX5_pass_158 : decode cX5_pass 158 = .ok (.iconst 1, 1) := by decide +kernel
theorem dX5_pass_159 : decode cX5_pass 159 = .ok (.invokevirtual 73, 3) := by decide +kernel
theorem dX5_pass_162 : decode cX5_pass 162 = .ok (.iinc 1 1, 3) := by decide +kernel
theorem dX5_pass_165 : decode cX5_pass 165 = .ok (.goto (-94), 3) := by decide +kernel
theorem dX5_pass_168 : decode cX5_pass 168 = .ok (.aload_n 0, 1) := by decide +kernel
theorem dX5_pass_169 : decode cX5_pass 169 = .ok (.dup, 1) := by decide +kernel
theorem dX5_pass_170 : decode cX5_pass 170 = .ok (.getfield 35, 3) := by decide +kernel
theorem dX5_pass_173 : decode cX5_pass 173 = .ok (.iconst 1, 1) := by decide +kernel
theorem dX5_pass_174 : decode cX5_pass 174 = .ok (.iadd, 1) := by decide +kernel
theorem dX5_pass_175 : decode cX5_pass 175 = .ok (.putfield 35, 3) := by decide +kernel
theorem dX5_pass_178 : decode cX5_pass 178 = .ok (.return_, 1) := by decide +kernel
set_option maxRecDepth 20000 in
theorem ggX6_init_X5_init : GoodIn wsX6_init wsX5_init := goodIn_r _ [15, 16, 17, 2, 3, 18, 4, 19, 20, 21, 34, 35, 36, 37, 38, 39, 40, 41] (by decide +kernel) (by decide +kernel)
set_option maxRecDepth 20000 in
theorem gX6_init_X5_init_n24 : GoodIn wsX6_init (wsX5_init) := ggX6_init_X5_init
set_option maxRecDepth 20000 in
theorem ggX6_init_J7_fill_53178 : GoodIn wsX6_init wsJ7_fill_53178 := goodIn_r _ [25] (by decide +kernel) (by decide +kernel)
set_option maxRecDepth 20000 in
theorem gX6_init_J7_fill_53178 : GoodIn wsX6_init (va_wsS RX6 34 yJ7_fill_53178 wsJ7_fill_53178) := goodIn_app (goodIn_of _ (by decide +kernel)) ggX6_init_J7_fill_53178
theorem dX6_init_0 : decode cX6_init 0 = .ok (.aload_n 0, 1) := by decide +kernel
theorem dX6_init_1 : decode cX6_init 1 = .ok (.invokespecial 1, 3) := by decide +kernel
theorem dX6_init_4 : decode cX6_init 4 = .ok (.aload_n 0, 1) := by decide +kernel
theorem dX6_init_5 : decode cX6_init 5 = .ok (.bipush 14, 2) := by decide +kernel
theorem dX6_init_7 : decode cX6_init 7 = .ok (.newarray .int, 2) := by decide +kernel
theorem dX6_init_9 : decode cX6_init 9 = .ok (.putfield 9, 3) := by decide +kernel
theorem dX6_init_12 : decode cX6_init 12 = .ok (.aload_n 0, 1) := by decide +kernel
theorem dX6_init_13 : decode cX6_init 13 = .ok (.bipush 12, 2) := by decide +kernel
theorem dX6_init_15 : decode cX6_init 15 = .ok (.newarray .int, 2) := by decide +kernel
theorem dX6_init_17 : decode cX6_init 17 = .ok (.putfield 13, 3) := by decide +kernel
theorem dX6_init_20 : decode cX6_init 20 = .ok (.aload_n 0, 1) := by decide +kernel
theorem dX6_init_21 : decode cX6_init 21 = .ok (.bipush 12, 2) := by decide +kernel
theorem dX6_init_23 : decode cX6_init 23 = .ok (.newarray .int, 2) := by decide +kernel
theorem dX6_init_25 : decode cX6_init 25 = .ok (.putfield 16, 3) := by decide +kernel
theorem dX6_init_28 : decode cX6_init 28 = .ok (.aload_n 0, 1) := by decide +kernel
theorem dX6_init_29 : decode cX6_init 29 = .ok (.bipush 12, 2) := by decide +kernel
theorem dX6_init_31 : decode cX6_init 31 = .ok (.newarray .int, 2) := by decide +kernel
theorem dX6_init_33 : decode cX6_init 33 = .ok (.putfield 19, 3) := by decide +kernel
theorem dX6_init_36 : decode cX6_init 36 = .ok (.aload_n 0, 1) := by decide +kernel
theorem dX6_init_37 : decode cX6_init 37 = .ok (.new 22, 3) := by decide +kernel
theorem dX6_init_40 : decode cX6_init 40 = .ok (.dup, 1) := by decide +kernel
theorem dX6_init_41 : decode cX6_init 41 = .ok (.aload_n 0, 1) := by decide +kernel
theorem dX6_init_42 : decode cX6_init 42 = .ok (.invokespecial 24, 3) := by decide +kernel
theorem dX6_init_45 : decode cX6_init 45 = .ok (.putfield 27, 3) := by decide +kernel
theorem dX6_init_48 : decode cX6_init 48 = .ok (.aload_n 0, 1) := by decide +kernel
theorem dX6_init_49 : decode cX6_init 49 = .ok (.new 22, 3) := by decide +kernel
theorem dX6_init_52 : decode cX6_init 52 = .ok (.dup, 1) := by decide +kernel
theorem dX6_init_53 : decode cX6_init 53 = .ok (.aload_n 0, 1) := by decide +kernel
theorem dX6_init_54 : decode cX6_init 54 = .ok (.invokespecial 24, 3) := by decide +kernel
theorem dX6_init_57 : decode cX6_init 57 = .ok (.putfield 31, 3) := by decide +kernel
theorem dX6_init_60 : decode cX6_init 60 = .ok (.aload_n 0, 1) := by decide +kernel
theorem dX6_init_61 : decode cX6_init 61 = .ok (.getfield 9, 3) := by decide +kernel
theorem dX6_init_64 : decode cX6_init 64 = .ok (.bipush (-2), 2) := by decide +kernel
theorem dX6_init_66 : decode cX6_init 66 = .ok (.invokestatic 34, 3) := by decide +kernel
theorem dX6_init_69 : decode cX6_init 69 = .ok (.aload_n 0, 1) := by decide +kernel
theorem dX6_init_70 : decode cX6_init 70 = .ok (.getfield 27, 3) := by decide +kernel
theorem dX6_init_73 : decode cX6_init 73 = .ok (.getfield 40, 3) := by decide +kernel
theorem dX6_init_76 : decode cX6_init 76 = .ok (.bipush 30, 2) := by decide +kernel
theorem dX6_init_78 : decode cX6_init 78 = .ok (.invokestatic 34, 3) := by decide +kernel
theorem dX6_init_81 : decode cX6_init 81 = .ok (.return_, 1) := by decide +kernel
theorem dX6_thrown_0 : decode cX6_thrown 0 = .ok (.aload_n 0, 1) := by decide +kernel
theorem dX6_thrown_1 : decode cX6_thrown 1 = .ok (.getfield 43, 3) := by decide +kernel
theorem dX6_thrown_4 : decode cX6_thrown 4 = .ok (.ireturn, 1) := by decide +kernel
theorem dX6_no_0 : decode cX6_no 0 = .ok (.aload_n 0, 1) := by decide +kernel
theorem dX6_no_1 : decode cX6_no 1 = .ok (.iload_n 1, 1) := by decide +kernel
theorem dX6_no_2 : decode cX6_no 2 = .ok (.putfield 43, 3) := by decide +kernel
theorem dX6_no_5 : decode cX6_no 5 = .ok (.iconst 0, 1) := by decide +kernel
theorem dX6_no_6 : decode cX6_no 6 = .ok (.ireturn, 1) := by decide +kernel
theorem dX6_isIn_0 : decode cX6_isIn 0 = .ok (.iload_n 0, 1) := by decide +kernel
theorem dX6_isIn_1 : decode cX6_isIn 1 = .ok (.iload_n 1, 1) := by decide +kernel
theorem dX6_isIn_2 : decode cX6_isIn 2 = .ok (.if_icmp .lt 12, 3) := by decide +kernel
theorem dX6_isIn_5 : decode cX6_isIn 5 = .ok (.iload_n 0, 1) := by decide +kernel
theorem dX6_isIn_6 : decode cX6_isIn 6 = .ok (.iload_n 2, 1) := by decide +kernel
theorem dX6_isIn_7 : decode cX6_isIn 7 = .ok (.if_icmp .gt 7, 3) := by decide +kernel
theorem dX6_isIn_10 : decode cX6_isIn 10 = .ok (.iconst 1, 1) := by decide +kernel
theorem dX6_isIn_11 : decode cX6_isIn 11 = .ok (.goto 4, 3) := by decide +kernel
theorem dX6_isIn_14 : decode cX6_isIn 14 = .ok (.iconst 0, 1) := by decide +kernel
theorem dX6_isIn_15 : decode cX6_isIn 15 = .ok (.ireturn, 1) := by decide +kernel
set_option maxRecDepth 20000 in
theorem ggX6_isPlace_X6_isIn : GoodIn wsX6_isPlace wsX6_isIn := goodIn_r _ [4] (by decide +kernel) (by decide +kernel)
set_option maxRecDepth 20000 in
theorem gX6_isPlace_X6_isIn : GoodIn wsX6_isPlace (va_wsS RX6 47 yX6_isIn wsX6_isIn) := goodIn_app (goodIn_of _ (by decide +kernel)) ggX6_isPlace_X6_isIn
theorem dX6_isPlace_0 : decode cX6_isPlace 0 = .ok (.iload_n 0, 1) := by decide +kernel
theorem dX6_isPlace_1 : decode cX6_isPlace 1 = .ok (.iconst 0, 1) := by decide +kernel
theorem dX6_isPlace_2 : decode cX6_isPlace 2 = .ok (.bipush 11, 2) := by decide +kernel
theorem dX6_isPlace_4 : decode cX6_isPlace 4 = .ok (.invokestatic 47, 3) := by decide +kernel
theorem dX6_isPlace_7 : decode cX6_isPlace 7 = .ok (.ifCond .eq 16, 3) := by decide +kernel
theorem dX6_isPlace_10 : decode cX6_isPlace 10 = .ok (.iload_n 1, 1) := by decide +kernel
theorem dX6_isPlace_11 : decode cX6_isPlace 11 = .ok (.iconst 0, 1) := by decide +kernel
theorem dX6_isPlace_12 : decode cX6_isPlace 12 = .ok (.iconst 2, 1) := by decide +kernel
theorem dX6_isPlace_13 : decode cX6_isPlace 13 = .ok (.invokestatic 47, 3) := by decide +kernel
theorem dX6_isPlace_16 : decode cX6_isPlace 16 = .ok (.ifCond .eq 7, 3) := by decide +kernel
theorem dX6_isPlace_19 : decode cX6_isPlace 19 = .ok (.iconst 1, 1) := by decide +kernel
theorem dX6_isPlace_20 : decode cX6_isPlace 20 = .ok (.goto 4, 3) := by decide +kernel
theorem dX6_isPlace_23 : decode cX6_isPlace 23 = .ok (.iconst 0, 1) := by decide +kernel
theorem dX6_isPlace_24 : decode cX6_isPlace 24 = .ok (.ireturn, 1) := by decide +kernel
set_option maxRecDepth 20000 in
theorem ggX6_isCourier_X6_isIn : GoodIn wsX6_isCourier wsX6_isIn := goodIn_r _ [5] (by decide +kernel) (by decide +kernel)
set_option maxRecDepth 20000 in
theorem gX6_isCourier_X6_isIn : GoodIn wsX6_isCourier (va_wsS RX6 47 yX6_isIn wsX6_isIn) := goodIn_app (goodIn_of _ (by decide +kernel)) ggX6_isCourier_X6_isIn
theorem dX6_isCourier_0 : decode cX6_isCourier 0 = .ok (.iload_n 1, 1) := by decide +kernel
theorem dX6_isCourier_1 : decode cX6_isCourier 1 = .ok (.iconst 0, 1) := by decide +kernel
theorem dX6_isCourier_2 : decode cX6_isCourier 2 = .ok (.aload_n 0, 1) := by decide +kernel
theorem dX6_isCourier_3 : decode cX6_isCourier 3 = .ok (.getfield 27, 3) := by decide +kernel
theorem dX6_isCourier_6 : decode cX6_isCourier 6 = .ok (.getfield 51, 3) := by decide +kernel
theorem dX6_isCourier_9 : decode cX6_isCourier 9 = .ok (.iconst 1, 1) := by decide +kernel
theorem dX6_isCourier_10 : decode cX6_isCourier 10 = .ok (.isub, 1) := by decide +kernel
theorem dX6_isCourier_11 : decode cX6_isCourier 11 = .ok (.invokestatic 47, 3) := by decide +kernel
theorem dX6_isCourier_14 : decode cX6_isCourier 14 = .ok (.ireturn, 1) := by decide +kernel
set_option maxRecDepth 20000 in
theorem ggX6_setWarm_X6_isIn : GoodIn wsX6_setWarm wsX6_isIn := goodIn_r _ [6] (by decide +kernel) (by decide +kernel)
set_option maxRecDepth 20000 in
theorem gX6_setWarm_X6_isIn : GoodIn wsX6_setWarm (va_wsS RX6 47 yX6_isIn wsX6_isIn) := goodIn_app (goodIn_of _ (by decide +kernel)) ggX6_setWarm_X6_isIn
set_option maxRecDepth 20000 in
theorem ggX6_setWarm_X6_no : GoodIn wsX6_setWarm wsX6_no := goodIn_r _ [10, 1, 11, 12, 13, 14, 15, 16, 17, 18] (by decide +kernel) (by decide +kernel)
set_option maxRecDepth 20000 in
theorem gX6_setWarm_X6_no : GoodIn wsX6_setWarm (wsV RX6 54 RX6 yX6_no wsX6_no) := goodIn_app (goodIn_of _ (by decide +kernel)) ggX6_setWarm_X6_no
theorem dX6_setWarm_0 : decode cX6_setWarm 0 = .ok (.aload_n 0, 1) := by decide +kernel
theorem dX6_setWarm_1 : decode cX6_setWarm 1 = .ok (.iconst 0, 1) := by decide +kernel
theorem dX6_setWarm_2 : decode cX6_setWarm 2 = .ok (.putfield 43, 3) := by decide +kernel
theorem dX6_setWarm_5 : decode cX6_setWarm 5 = .ok (.iload_n 1, 1) := by decide +kernel
theorem dX6_setWarm_6 : decode cX6_setWarm 6 = .ok (.iconst 0, 1) := by decide +kernel
theorem dX6_setWarm_7 : decode cX6_setWarm 7 = .ok (.bipush 13, 2) := by decide +kernel
theorem dX6_setWarm_9 : decode cX6_setWarm 9 = .ok (.invokestatic 47, 3) := by decide +kernel
theorem dX6_setWarm_12 : decode cX6_setWarm 12 = .ok (.ifCond .ne 9, 3) := by decide +kernel
theorem dX6_setWarm_15 : decode cX6_setWarm 15 = .ok (.aload_n 0, 1) := by decide +kernel
theorem dX6_setWarm_16 : decode cX6_setWarm 16 = .ok (.iconst 1, 1) := by decide +kernel
theorem dX6_setWarm_17 : decode cX6_setWarm 17 = .ok (.invokevirtual 54, 3) := by decide +kernel
theorem dX6_setWarm_20 : decode cX6_setWarm 20 = .ok (.ireturn, 1) := by decide +kernel
theorem dX6_setWarm_21 : decode cX6_setWarm 21 = .ok (.iload_n 2, 1) := by decide +kernel
theorem dX6_setWarm_22 : decode cX6_setWarm 22 = .ok (.bipush (-9), 2) := by decide +kernel
theorem dX6_setWarm_24 : decode cX6_setWarm 24 = .ok (.bipush 9, 2) := by decide +kernel
theorem dX6_setWarm_26 : decode cX6_setWarm 26 = .ok (.invokestatic 47, 3) := by decide +kernel
theorem dX6_setWarm_29 : decode cX6_setWarm 29 = .ok (.ifCond .ne 9, 3) := by decide +kernel
theorem dX6_setWarm_32 : decode cX6_setWarm 32 = .ok (.aload_n 0, 1) := by decide +kernel
theorem dX6_setWarm_33 : decode cX6_setWarm 33 = .ok (.iconst 2, 1) := by decide +kernel
theorem dX6_setWarm_34 : decode cX6_setWarm 34 = .ok (.invokevirtual 54, 3) := by decide +kernel
theorem dX6_setWarm_37 : decode cX6_setWarm 37 = .ok (.ireturn, 1) := by decide +kernel
theorem dX6_setWarm_38 : decode cX6_setWarm 38 = .ok (.aload_n 0, 1) := by decide +kernel
theorem dX6_setWarm_39 : decode cX6_setWarm 39 = .ok (.getfield 9, 3) := by decide +kernel
theorem dX6_setWarm_42 : decode cX6_setWarm 42 = .ok (.iload_n 1, 1) := by decide +kernel
theorem dX6_setWarm_43 : decode cX6_setWarm 43 = .ok (.iaload, 1) := by decide +kernel
theorem dX6_setWarm_44 : decode cX6_setWarm 44 = .ok (.istore_n 3, 1) := by decide +kernel
theorem dX6_setWarm_45 : decode cX6_setWarm 45 = .ok (.aload_n 0, 1) := by decide +kernel
theorem dX6_setWarm_46 : decode cX6_setWarm 46 = .ok (.getfield 9, 3) := by decide +kernel
theorem dX6_setWarm_49 : decode cX6_setWarm 49 = .ok (.iload_n 1, 1) := by decide +kernel
theorem dX6_setWarm_50 : decode cX6_setWarm 50 = .ok (.iload_n 2, 1) := by decide +kernel
theorem dX6_setWarm_51 : decode cX6_setWarm 51 = .ok (.iastore, 1) := by decide +kernel
theorem dX6_setWarm_52 : decode cX6_setWarm 52 = .ok (.iload_n 3, 1) := by decide +kernel
theorem dX6_setWarm_53 : decode cX6_setWarm 53 = .ok (.ireturn, 1) := by decide +kernel
set_option maxRecDepth 20000 in
theorem ggX6_setIce_X6_isPlace : GoodIn wsX6_setIce wsX6_isPlace := goodIn_r _ [6, 7, 8, 5, 9] (by decide +kernel) (by decide +kernel)
set_option maxRecDepth 20000 in
theorem gX6_setIce_X6_isPlace : GoodIn wsX6_setIce (va_wsS RX6 58 yX6_isPlace wsX6_isPlace) := goodIn_app (goodIn_of _ (by decide +kernel)) ggX6_setIce_X6_isPlace
set_option maxRecDepth 20000 in
theorem ggX6_setIce_X6_no : GoodIn wsX6_setIce wsX6_no := goodIn_r _ [13, 1, 14, 15, 16, 17, 18, 19, 20, 21] (by decide +kernel) (by decide +kernel)
set_option maxRecDepth 20000 in
theorem gX6_setIce_X6_no : GoodIn wsX6_setIce (wsV RX6 54 RX6 yX6_no wsX6_no) := goodIn_app (goodIn_of _ (by decide +kernel)) ggX6_setIce_X6_no
set_option maxRecDepth 20000 in
theorem ggX6_setIce_X6_isIn : GoodIn wsX6_setIce wsX6_isIn := goodIn_r _ [9] (by decide +kernel) (by decide +kernel)
set_option maxRecDepth 20000 in
theorem gX6_setIce_X6_isIn : GoodIn wsX6_setIce (va_wsS RX6 47 yX6_isIn wsX6_isIn) := goodIn_app (goodIn_of _ (by decide +kernel)) ggX6_setIce_X6_isIn
theorem dX6_setIce_0 : decode cX6_setIce 0 = .ok (.aload_n 0, 1) := by decide +kernel
theorem dX6_setIce_1 : decode cX6_setIce 1 = .ok (.iconst 0, 1) := by decide +kernel
theorem dX6_setIce_2 : decode cX6_setIce 2 = .ok (.putfield 43, 3) := by decide +kernel
theorem dX6_setIce_5 : decode cX6_setIce 5 = .ok (.iload_n 1, 1) := by decide +kernel
theorem dX6_setIce_6 : decode cX6_setIce 6 = .ok (.iload_n 2, 1) := by decide +kernel
theorem dX6_setIce_7 : decode cX6_setIce 7 = .ok (.invokestatic 58, 3) := by decide +kernel
theorem dX6_setIce_10 : decode cX6_setIce 10 = .ok (.ifCond .ne 9, 3) := by decide +kernel
theorem dX6_setIce_13 : decode cX6_setIce 13 = .ok (.aload_n 0, 1) := by decide +kernel
theorem dX6_setIce_14 : decode cX6_setIce 14 = .ok (.iconst 1, 1) := by decide +kernel
theorem dX6_setIce_15 : decode cX6_setIce 15 = .ok (.invokevirtual 54, 3) := by decide +kernel
theorem dX6_setIce_18 : decode cX6_setIce 18 = .ok (.ireturn, 1) := by decide +kernel
theorem dX6_setIce_19 : decode cX6_setIce 19 = .ok (.iload_n 3, 1) := by decide +kernel
theorem dX6_setIce_20 : decode cX6_setIce 20 = .ok (.iconst 0, 1) := by decide +kernel
theorem dX6_setIce_21 : decode cX6_setIce 21 = .ok (.bipush 60, 2) := by decide +kernel
theorem dX6_setIce_23 : decode cX6_setIce 23 = .ok (.invokestatic 47, 3) := by decide +kernel
theorem dX6_setIce_26 : decode cX6_setIce 26 = .ok (.ifCond .ne 9, 3) := by decide +kernel
theorem dX6_setIce_29 : decode cX6_setIce 29 = .ok (.aload_n 0, 1) := by decide +kernel
theorem dX6_setIce_30 : decode cX6_setIce 30 = .ok (.iconst 2, 1) := by decide +kernel
theorem dX6_setIce_31 : decode cX6_setIce 31 = .ok (.invokevirtual 54, 3) := by decide +kernel
theorem dX6_setIce_34 : decode cX6_setIce 34 = .ok (.ireturn, 1) := by decide +kernel
theorem dX6_setIce_35 : decode cX6_setIce 35 = .ok (.aload_n 0, 1) := by decide +kernel
theorem dX6_setIce_36 : decode cX6_setIce 36 = .ok (.getfield 27, 3) := by decide +kernel
theorem dX6_setIce_39 : decode cX6_setIce 39 = .ok (.getfield 40, 3) := by decide +kernel
theorem dX6_setIce_42 : decode cX6_setIce 42 = .ok (.iconst 3, 1) := by decide +kernel
theorem dX6_setIce_43 : decode cX6_setIce 43 = .ok (.iload_n 1, 1) := by decide +kernel
theorem dX6_setIce_44 : decode cX6_setIce 44 = .ok (.imul, 1) := by decide +kernel
theorem dX6_setIce_45 : decode cX6_setIce 45 = .ok (.iload_n 2, 1) := by decide +kernel
theorem dX6_setIce_46 : decode cX6_setIce 46 = .ok (.iadd, 1) := by decide +kernel
theorem dX6_setIce_47 : decode cX6_setIce 47 = .ok (.iaload, 1) := by decide +kernel
theorem dX6_setIce_48 : decode cX6_setIce 48 = .ok (.istore 4, 2) := by decide +kernel
theorem dX6_setIce_50 : decode cX6_setIce 50 = .ok (.aload_n 0, 1) := by decide +kernel
theorem dX6_setIce_51 : decode cX6_setIce 51 = .ok (.getfield 27, 3) := by decide +kernel
theorem dX6_setIce_54 : decode cX6_setIce 54 = .ok (.getfield 40, 3) := by decide +kernel
theorem dX6_setIce_57 : decode cX6_setIce 57 = .ok (.iconst 3, 1) := by decide +kernel
theorem dX6_setIce_58 : decode cX6_setIce 58 = .ok (.iload_n 1, 1) := by decide +kernel
theorem dX6_setIce_59 : decode cX6_setIce 59 = .ok (.imul, 1) := by decide +kernel
theorem dX6_setIce_60 : decode cX6_setIce 60 = .ok (.iload_n 2, 1) := by decide +kernel
theorem dX6_setIce_61 : decode cX6_setIce 61 = .ok (.iadd, 1) := by decide +kernel
theorem dX6_setIce_62 : decode cX6_setIce 62 = .ok (.iload_n 3, 1) := by decide +kernel
theorem dX6_setIce_63 : decode cX6_setIce 63 = .ok (.iastore, 1) := by decide +kernel
theorem dX6_setIce_64 : decode cX6_setIce 64 = .ok (.iload 4, 2) := by decide +kernel
theorem dX6_setIce_66 : decode cX6_setIce 66 = .ok (.ireturn, 1) := by decide +kernel
theorem dX6_huts_0 : decode cX6_huts 0 = .ok (.iconst 0, 1) := by decide +kernel
theorem dX6_huts_1 : decode cX6_huts 1 = .ok (.istore_n 1, 1) := by decide +kernel
theorem dX6_huts_2 : decode cX6_huts 2 = .ok (.iconst 0, 1) := by decide +kernel
theorem dX6_huts_3 : decode cX6_huts 3 = .ok (.istore_n 2, 1) := by decide +kernel
theorem dX6_huts_4 : decode cX6_huts 4 = .ok (.iload_n 2, 1) := by decide +kernel
theorem dX6_huts_5 : decode cX6_huts 5 = .ok (.bipush 12, 2) := by decide +kernel
theorem dX6_huts_7 : decode cX6_huts 7 = .ok (.if_icmp .ge 18, 3) := by decide +kernel
theorem dX6_huts_10 : decode cX6_huts 10 = .ok (.iload_n 1, 1) := by decide +kernel
theorem dX6_huts_11 : decode cX6_huts 11 = .ok (.aload_n 0, 1) := by decide +kernel
theorem dX6_huts_12 : decode cX6_huts 12 = .ok (.getfield 13, 3) := by decide +kernel
theorem dX6_huts_15 : decode cX6_huts 15 = .ok (.iload_n 2, 1) := by decide +kernel
theorem dX6_huts_16 : decode cX6_huts 16 = .ok (.iaload, 1) := by decide +kernel
theorem dX6_huts_17 : decode cX6_huts 17 = .ok (.iadd, 1) := by decide +kernel
theorem dX6_huts_18 : decode cX6_huts 18 = .ok (.istore_n 1, 1) := by decide +kernel
theorem dX6_huts_19 : decode cX6_huts 19 = .ok (.iinc 2 1, 3) := by decide +kernel
theorem dX6_huts_22 : decode cX6_huts 22 = .ok (.goto (-18), 3) := by decide +kernel
theorem dX6_huts_25 : decode cX6_huts 25 = .ok (.iload_n 1, 1) := by decide +kernel
theorem dX6_huts_26 : decode cX6_huts 26 = .ok (.ireturn, 1) := by decide +kernel
set_option maxRecDepth 20000 in
theorem ggX6_build_X6_isIn : GoodIn wsX6_build wsX6_isIn := goodIn_r _ [6] (by decide +kernel) (by decide +kernel)
set_option maxRecDepth 20000 in
theorem gX6_build_X6_isIn : GoodIn wsX6_build (va_wsS RX6 47 yX6_isIn wsX6_isIn) := goodIn_app (goodIn_of _ (by decide +kernel)) ggX6_build_X6_isIn
set_option maxRecDepth 20000 in
theorem ggX6_build_X6_no : GoodIn wsX6_build wsX6_no := goodIn_r _ [10, 1, 15, 16, 17, 18, 19, 20, 21, 22] (by decide +kernel) (by decide +kernel)
set_option maxRecDepth 20000 in
theorem gX6_build_X6_no : GoodIn wsX6_build (wsV RX6 54 RX6 yX6_no wsX6_no) := goodIn_app (goodIn_of _ (by decide +kernel)) ggX6_build_X6_no
set_option maxRecDepth 20000 in
theorem ggX6_build_X6_huts : GoodIn wsX6_build wsX6_huts := goodIn_r _ [14, 2, 15, 16, 17, 18, 19, 20, 21, 22] (by decide +kernel) (by decide +kernel)
set_option maxRecDepth 20000 in
theorem gX6_build_X6_huts : GoodIn wsX6_build (wsV RX6 62 RX6 yX6_huts wsX6_huts) := goodIn_app (goodIn_of _ (by decide +kernel)) ggX6_build_X6_huts
theorem dX6_build_0 : decode cX6_build 0 = .ok (.aload_n 0, 1) := by decide +kernel
theorem dX6_build_1 : decode cX6_build 1 = .ok (.iconst 0, 1) := by decide +kernel
theorem dX6_build_2 : decode cX6_build 2 = .ok (.putfield 43, 3) := by decide +kernel
theorem dX6_build_5 : decode cX6_build 5 = .ok (.iload_n 1, 1) := by decide +kernel
theorem dX6_build_6 : decode cX6_build 6 = .ok (.iconst 0, 1) := by decide +kernel
theorem dX6_build_7 : decode cX6_build 7 = .ok (.bipush 11, 2) := by decide +kernel
theorem dX6_build_9 : decode cX6_build 9 = .ok (.invokestatic 47, 3) := by decide +kernel
theorem dX6_build_12 : decode cX6_build 12 = .ok (.ifCond .ne 9, 3) := by decide +kernel
theorem dX6_build_15 : decode cX6_build 15 = .ok (.aload_n 0, 1) := by decide +kernel
theorem dX6_build_16 : decode cX6_build 16 = .ok (.iconst 1, 1) := by decide +kernel
theorem dX6_build_17 : decode cX6_build 17 = .ok (.invokevirtual 54, 3) := by decide +kernel
theorem dX6_build_20 : decode cX6_build 20 = .ok (.ireturn, 1) := by decide +kernel
theorem dX6_build_21 : decode cX6_build 21 = .ok (.aload_n 0, 1) := by decide +kernel
theorem dX6_build_22 : decode cX6_build 22 = .ok (.getfield 13, 3) := by decide +kernel
theorem dX6_build_25 : decode cX6_build 25 = .ok (.iload_n 1, 1) := by decide +kernel
theorem dX6_build_26 : decode cX6_build 26 = .ok (.iconst 1, 1) := by decide +kernel
theorem dX6_build_27 : decode cX6_build 27 = .ok (.iastore, 1) := by decide +kernel
theorem dX6_build_28 : decode cX6_build 28 = .ok (.aload_n 0, 1) := by decide +kernel
theorem dX6_build_29 : decode cX6_build 29 = .ok (.invokevirtual 62, 3) := by decide +kernel
theorem dX6_build_32 : decode cX6_build 32 = .ok (.ireturn, 1) := by decide +kernel
set_option maxRecDepth 20000 in
theorem ggX6_borne_X5_holds : GoodIn wsX6_borne wsX5_holds := goodIn_r _ [10, 11, 12, 21, 22, 23, 24, 25, 26, 27, 28] (by decide +kernel) (by decide +kernel)
set_option maxRecDepth 20000 in
theorem gX6_borne_X5_holds : GoodIn wsX6_borne (wsV RX6 66 RX5 yX5_holds wsX5_holds) := goodIn_app (goodIn_of _ (by decide +kernel)) ggX6_borne_X5_holds
theorem dX6_borne_0 : decode cX6_borne 0 = .ok (.iconst 0, 1) := by decide +kernel
theorem dX6_borne_1 : decode cX6_borne 1 = .ok (.aload_n 0, 1) := by decide +kernel
theorem dX6_borne_2 : decode cX6_borne 2 = .ok (.getfield 27, 3) := by decide +kernel
theorem dX6_borne_5 : decode cX6_borne 5 = .ok (.iload_n 1, 1) := by decide +kernel
theorem dX6_borne_6 : decode cX6_borne 6 = .ok (.invokevirtual 66, 3) := by decide +kernel
theorem dX6_borne_9 : decode cX6_borne 9 = .ok (.invokestatic 69, 3) := by decide +kernel
theorem dX6_borne_12 : decode cX6_borne 12 = .ok (.ireturn, 1) := by decide +kernel
set_option maxRecDepth 20000 in
theorem ggX6_placeTold_X5_get : GoodIn wsX6_placeTold wsX5_get := goodIn_r _ [7, 8, 32, 33, 34, 35, 36, 37, 38, 39] (by decide +kernel) (by decide +kernel)
set_option maxRecDepth 20000 in
theorem gX6_placeTold_X5_get : GoodIn wsX6_placeTold (wsV RX6 75 RX5 yX5_get wsX5_get) := goodIn_app (goodIn_of _ (by decide +kernel)) ggX6_placeTold_X5_get
set_option maxRecDepth 20000 in
theorem ggX6_placeTold_X6_borne : GoodIn wsX6_placeTold wsX6_borne := goodIn_r _ [13, 1, 14, 15, 16, 17, 18, 19, 20, 6, 21, 22, 23, 24, 25, 26, 27, 28, 29, 30, 31, 32, 33, 34, 35, 36, 37, 38, 39] (by decide +kernel) (by decide +kernel)
set_option maxRecDepth 20000 in
theorem gX6_placeTold_X6_borne : GoodIn wsX6_placeTold (wsV RX6 81 RX6 yX6_borne wsX6_borne) := goodIn_app (goodIn_of _ (by decide +kernel)) ggX6_placeTold_X6_borne
theorem dX6_placeTold_0 : decode cX6_placeTold 0 = .ok (.iconst 0, 1) := by decide +kernel
theorem dX6_placeTold_1 : decode cX6_placeTold 1 = .ok (.istore_n 3, 1) := by decide +kernel
theorem dX6_placeTold_2 : decode cX6_placeTold 2 = .ok (.iconst 0, 1) := by decide +kernel
theorem dX6_placeTold_3 : decode cX6_placeTold 3 = .ok (.istore 4, 2) := by decide +kernel
theorem dX6_placeTold_5 : decode cX6_placeTold 5 = .ok (.iload 4, 2) := by decide +kernel
theorem dX6_placeTold_7 : decode cX6_placeTold 7 = .ok (.aload_n 0, 1) := by decide +kernel
theorem dX6_placeTold_8 : decode cX6_placeTold 8 = .ok (.getfield 27, 3) := by decide +kernel
theorem dX6_placeTold_11 : decode cX6_placeTold 11 = .ok (.getfield 51, 3) := by decide +kernel
theorem dX6_placeTold_14 : decode cX6_placeTold 14 = .ok (.if_icmp .ge 59, 3) := by decide +kernel
theorem dX6_placeTold_17 : decode cX6_placeTold 17 = .ok (.iload_n 3, 1) := by decide +kernel
theorem dX6_placeTold_18 : decode cX6_placeTold 18 = .ok (.aload_n 0, 1) := by decide +kernel
theorem dX6_placeTold_19 : decode cX6_placeTold 19 = .ok (.getfield 27, 3) := by decide +kernel
theorem dX6_placeTold_22 : decode cX6_placeTold 22 = .ok (.iload 4, 2) := by decide +kernel
theorem dX6_placeTold_24 : decode cX6_placeTold 24 = .ok (.bipush 6, 2) := by decide +kernel
theorem dX6_placeTold_26 : decode cX6_placeTold 26 = .ok (.invokevirtual 75, 3) := by decide +kernel
theorem dX6_placeTold_29 : decode cX6_placeTold 29 = .ok (.iconst 3, 1) := by decide +kernel
theorem dX6_placeTold_30 : decode cX6_placeTold 30 = .ok (.if_icmp .eq 34, 3) := by decide +kernel
theorem dX6_placeTold_33 : decode cX6_placeTold 33 = .ok (.iconst 3, 1) := by decide +kernel
theorem dX6_placeTold_34 : decode cX6_placeTold 34 = .ok (.aload_n 0, 1) := by decide +kernel
theorem dX6_placeTold_35 : decode cX6_placeTold 35 = .ok (.getfield 27, 3) := by decide +kernel
theorem dX6_placeTold_38 : decode cX6_placeTold 38 = .ok (.iload 4, 2) := by decide +kernel
theorem dX6_placeTold_40 : decode cX6_placeTold 40 = .ok (.iconst 3, 1) := by decide +kernel
theorem dX6_placeTold_41 : decode cX6_placeTold 41 = .ok (.invokevirtual 75, 3) := by decide +kernel
theorem dX6_placeTold_44 : decode cX6_placeTold 44 = .ok (.imul, 1) := by decide +kernel
theorem dX6_placeTold_45 : decode cX6_placeTold 45 = .ok (.aload_n 0, 1) := by decide +kernel
theorem dX6_placeTold_46 : decode cX6_placeTold 46 = .ok (.getfield 27, 3) := by decide +kernel
theorem dX6_placeTold_49 : decode cX6_placeTold 49 = .ok (.iload 4, 2) := by decide +kernel
theorem dX6_placeTold_51 : decode cX6_placeTold 51 = .ok (.iconst 4, 1) := by decide +kernel
theorem dX6_placeTold_52 : decode cX6_placeTold 52 = .ok (.invokevirtual 75, 3) := by decide +kernel
theorem dX6_placeTold_55 : decode cX6_placeTold 55 = .ok (.iadd, 1) := by decide +kernel
theorem dX6_placeTold_56 : decode cX6_placeTold 56 = .ok (.iload_n 1, 1) := by decide +kernel
theorem dX6_placeTold_57 : decode cX6_placeTold 57 = .ok (.if_icmp .ne 7, 3) := by decide +kernel
theorem dX6_placeTold_60 : decode cX6_placeTold 60 = .ok (.iconst 1, 1) := by decide +kernel
theorem dX6_placeTold_61 : decode cX6_placeTold 61 = .ok (.goto 4, 3) := by decide +kernel
theorem dX6_placeTold_64 : decode cX6_placeTold 64 = .ok (.iconst 0, 1) := by decide +kernel
theorem dX6_placeTold_65 : decode cX6_placeTold 65 = .ok (.iadd, 1) := by decide +kernel
theorem dX6_placeTold_66 : decode cX6_placeTold 66 = .ok (.istore_n 3, 1) := by decide +kernel
theorem dX6_placeTold_67 : decode cX6_placeTold 67 = .ok (.iinc 4 1, 3) := by decide +kernel
theorem dX6_placeTold_70 : decode cX6_placeTold 70 = .ok (.goto (-65), 3) := by decide +kernel
theorem dX6_placeTold_73 : decode cX6_placeTold 73 = .ok (.iconst 4, 1) := by decide +kernel
theorem dX6_placeTold_74 : decode cX6_placeTold 74 = .ok (.newarray .int, 2) := by decide +kernel
theorem dX6_placeTold_76 : decode cX6_placeTold 76 = .ok (.dup, 1) := by decide +kernel
theorem dX6_placeTold_77 : decode cX6_placeTold 77 = .ok (.iconst 0, 1) := by decide +kernel
theorem dX6_placeTold_78 : decode cX6_placeTold 78 = .ok (.aload_n 0, 1) := by decide +kernel
theorem dX6_placeTold_79 : decode cX6_placeTold 79 = .ok (.getfield 27, 3) := by decide +kernel
theorem dX6_placeTold_82 : decode cX6_placeTold 82 = .ok (.getfield 40, 3) := by decide +kernel
theorem dX6_placeTold_85 : decode cX6_placeTold 85 = .ok (.iload_n 1, 1) := by decide +kernel
theorem dX6_placeTold_86 : decode cX6_placeTold 86 = .ok (.iaload, 1) := by decide +kernel
theorem dX6_placeTold_87 : decode cX6_placeTold 87 = .ok (.iastore, 1) := by decide +kernel
theorem dX6_placeTold_88 : decode cX6_placeTold 88 = .ok (.dup, 1) := by decide +kernel
theorem dX6_placeTold_89 : decode cX6_placeTold 89 = .ok (.iconst 1, 1) := by decide +kernel
theorem dX6_placeTold_90 : decode cX6_placeTold 90 = .ok (.aload_n 0, 1) := by decide +kernel
theorem dX6_placeTold_91 : decode cX6_placeTold 91 = .ok (.getfield 27, 3) := by decide +kernel
theorem dX6_placeTold_94 : decode cX6_placeTold 94 = .ok (.getfield 78, 3) := by decide +kernel
theorem dX6_placeTold_97 : decode cX6_placeTold 97 = .ok (.iload_n 1, 1) := by decide +kernel
theorem dX6_placeTold_98 : decode cX6_placeTold 98 = .ok (.iaload, 1) := by decide +kernel
theorem dX6_placeTold_99 : decode cX6_placeTold 99 = .ok (.iastore, 1) := by decide +kernel
theorem dX6_placeTold_100 : decode cX6_placeTold 100 = .ok (.dup, 1) := by decide +kernel
theorem dX6_placeTold_101 : decode cX6_placeTold 101 = .ok (.iconst 2, 1) := by decide +kernel
theorem dX6_placeTold_102 : decode cX6_placeTold 102 = .ok (.aload_n 0, 1) := by decide +kernel
theorem dX6_placeTold_103 : decode cX6_placeTold 103 = .ok (.iload_n 1, 1) := by decide +kernel
theorem dX6_placeTold_104 : decode cX6_placeTold 104 = .ok (.invokevirtual 81, 3) := by decide +kernel
theorem dX6_placeTold_107 : decode cX6_placeTold 107 = .ok (.iastore, 1) := by decide +kernel
theorem dX6_placeTold_108 : decode cX6_placeTold 108 = .ok (.dup, 1) := by decide +kernel
theorem dX6_placeTold_109 : decode cX6_placeTold 109 = .ok (.iconst 3, 1) := by decide +kernel
theorem dX6_placeTold_110 : decode cX6_placeTold 110 = .ok (.iload_n 3, 1) := by decide +kernel
theorem dX6_placeTold_111 : decode cX6_placeTold 111 = .ok (.iastore, 1) := by decide +kernel
theorem dX6_placeTold_112 : decode cX6_placeTold 112 = .ok (.astore 4, 2) := by decide +kernel
theorem dX6_placeTold_114 : decode cX6_placeTold 114 = .ok (.aload 4, 2) := by decide +kernel
theorem dX6_placeTold_116 : decode cX6_placeTold 116 = .ok (.iload_n 2, 1) := by decide +kernel
theorem dX6_placeTold_117 : decode cX6_placeTold 117 = .ok (.iaload, 1) := by decide +kernel
theorem dX6_placeTold_118 : decode cX6_placeTold 118 = .ok (.ireturn, 1) := by decide +kernel
set_option maxRecDepth 20000 in
theorem ggX6_place_X6_isPlace : GoodIn wsX6_place wsX6_isPlace := goodIn_r _ [5, 6, 7, 4, 8] (by decide +kernel) (by decide +kernel)
set_option maxRecDepth 20000 in
theorem gX6_place_X6_isPlace : GoodIn wsX6_place (va_wsS RX6 58 yX6_isPlace wsX6_isPlace) := goodIn_app (goodIn_of _ (by decide +kernel)) ggX6_place_X6_isPlace
set_option maxRecDepth 20000 in
theorem ggX6_place_X6_isIn : GoodIn wsX6_place wsX6_isIn := goodIn_r _ [8] (by decide +kernel) (by decide +kernel)
set_option maxRecDepth 20000 in
theorem gX6_place_X6_isIn : GoodIn wsX6_place (va_wsS RX6 47 yX6_isIn wsX6_isIn) := goodIn_app (goodIn_of _ (by decide +kernel)) ggX6_place_X6_isIn
set_option maxRecDepth 20000 in
theorem ggX6_place_X6_placeTold : GoodIn wsX6_place wsX6_placeTold := goodIn_r _ [12, 13, 14, 15, 16, 17, 18, 19, 20, 21, 22, 23, 4, 24, 25, 26, 27, 28, 29, 30, 31, 32, 33, 34, 39, 40, 41, 42, 43, 44, 45, 46, 47, 48, 49, 50, 51, 52, 53, 54] (by decide +kernel) (by decide +kernel)
set_option maxRecDepth 20000 in
theorem gX6_place_X6_placeTold : GoodIn wsX6_place (wsV RX6 84 RX6 yX6_placeTold wsX6_placeTold) := goodIn_app (goodIn_of _ (by decide +kernel)) ggX6_place_X6_placeTold
set_option maxRecDepth 20000 in
theorem ggX6_place_X6_no : GoodIn wsX6_place wsX6_no := goodIn_r _ [38, 1, 39, 40, 41, 42, 43, 44, 45, 46] (by decide +kernel) (by decide +kernel)
set_option maxRecDepth 20000 in
theorem gX6_place_X6_no : GoodIn wsX6_place (wsV RX6 54 RX6 yX6_no wsX6_no) := goodIn_app (goodIn_of _ (by decide +kernel)) ggX6_place_X6_no
theorem dX6_place_0 : decode cX6_place 0 = .ok (.aload_n 0, 1) := by decide +kernel
theorem dX6_place_1 : decode cX6_place 1 = .ok (.iconst 0, 1) := by decide +kernel
theorem dX6_place_2 : decode cX6_place 2 = .ok (.putfield 43, 3) := by decide +kernel
theorem dX6_place_5 : decode cX6_place 5 = .ok (.iload_n 1, 1) := by decide +kernel
theorem dX6_place_6 : decode cX6_place 6 = .ok (.iload_n 2, 1) := by decide +kernel
theorem dX6_place_7 : decode cX6_place 7 = .ok (.invokestatic 58, 3) := by decide +kernel
theorem dX6_place_10 : decode cX6_place 10 = .ok (.ifCond .eq 25, 3) := by decide +kernel
theorem dX6_place_13 : decode cX6_place 13 = .ok (.iload_n 3, 1) := by decide +kernel
theorem dX6_place_14 : decode cX6_place 14 = .ok (.iconst 0, 1) := by decide +kernel
theorem dX6_place_15 : decode cX6_place 15 = .ok (.iconst 3, 1) := by decide +kernel
theorem dX6_place_16 : decode cX6_place 16 = .ok (.invokestatic 47, 3) := by decide +kernel
theorem dX6_place_19 : decode cX6_place 19 = .ok (.ifCond .eq 16, 3) := by decide +kernel
theorem dX6_place_22 : decode cX6_place 22 = .ok (.aload_n 0, 1) := by decide +kernel
theorem dX6_place_23 : decode cX6_place 23 = .ok (.iconst 3, 1) := by decide +kernel
theorem dX6_place_24 : decode cX6_place 24 = .ok (.iload_n 1, 1) := by decide +kernel
theorem dX6_place_25 : decode cX6_place 25 = .ok (.imul, 1) := by decide +kernel
theorem dX6_place_26 : decode cX6_place 26 = .ok (.iload_n 2, 1) := by decide +kernel
theorem dX6_place_27 : decode cX6_place 27 = .ok (.iadd, 1) := by decide +kernel
theorem dX6_place_28 : decode cX6_place 28 = .ok (.iload_n 3, 1) := by decide +kernel
theorem dX6_place_29 : decode cX6_place 29 = .ok (.invokevirtual 84, 3) := by decide +kernel
theorem dX6_place_32 : decode cX6_place 32 = .ok (.goto 8, 3) := by decide +kernel
theorem dX6_place_35 : decode cX6_place 35 = .ok (.aload_n 0, 1) := by decide +kernel
theorem dX6_place_36 : decode cX6_place 36 = .ok (.iconst 1, 1) := by decide +kernel
theorem dX6_place_37 : decode cX6_place 37 = .ok (.invokevirtual 54, 3) := by decide +kernel
theorem dX6_place_40 : decode cX6_place 40 = .ok (.ireturn, 1) := by decide +kernel
set_option maxRecDepth 20000 in
theorem ggX6_come_X6_isPlace : GoodIn wsX6_come wsX6_isPlace := goodIn_r _ [11, 12, 13, 10, 14] (by decide +kernel) (by decide +kernel)
set_option maxRecDepth 20000 in
theorem gX6_come_X6_isPlace : GoodIn wsX6_come (va_wsS RX6 58 yX6_isPlace wsX6_isPlace) := goodIn_app (goodIn_of _ (by decide +kernel)) ggX6_come_X6_isPlace
set_option maxRecDepth 20000 in
theorem ggX6_come_X6_no : GoodIn wsX6_come wsX6_no := goodIn_r _ [18, 1, 26, 27, 28, 29, 30, 31, 32, 33] (by decide +kernel) (by decide +kernel)
set_option maxRecDepth 20000 in
theorem gX6_come_X6_no : GoodIn wsX6_come (wsV RX6 54 RX6 yX6_no wsX6_no) := goodIn_app (goodIn_of _ (by decide +kernel)) ggX6_come_X6_no
set_option maxRecDepth 20000 in
theorem ggX6_come_X6_isIn : GoodIn wsX6_come wsX6_isIn := goodIn_r _ [14] (by decide +kernel) (by decide +kernel)
set_option maxRecDepth 20000 in
theorem gX6_come_X6_isIn : GoodIn wsX6_come (va_wsS RX6 47 yX6_isIn wsX6_isIn) := goodIn_app (goodIn_of _ (by decide +kernel)) ggX6_come_X6_isIn
set_option maxRecDepth 20000 in
theorem ggX6_come_X5_holds : GoodIn wsX6_come wsX5_holds := goodIn_r _ [23, 24, 25, 34, 35, 36, 37, 38, 39, 40, 41] (by decide +kernel) (by decide +kernel)
set_option maxRecDepth 20000 in
theorem gX6_come_X5_holds : GoodIn wsX6_come (wsV RX6 66 RX5 yX5_holds wsX5_holds) := goodIn_app (goodIn_of _ (by decide +kernel)) ggX6_come_X5_holds
theorem dX6_come_0 : decode cX6_come 0 = .ok (.aload_n 0, 1) := by decide +kernel
theorem dX6_come_1 : decode cX6_come 1 = .ok (.iconst 0, 1) := by decide +kernel
theorem dX6_come_2 : decode cX6_come 2 = .ok (.putfield 43, 3) := by decide +kernel
theorem dX6_come_5 : decode cX6_come 5 = .ok (.iload_n 1, 1) := by decide +kernel
theorem dX6_come_6 : decode cX6_come 6 = .ok (.iload_n 2, 1) := by decide +kernel
theorem dX6_come_7 : decode cX6_come 7 = .ok (.invokestatic 58, 3) := by decide +kernel
theorem dX6_come_10 : decode cX6_come 10 = .ok (.ifCond .ne 9, 3) := by decide +kernel
theorem dX6_come_13 : decode cX6_come 13 = .ok (.aload_n 0, 1) := by decide +kernel
theorem dX6_come_14 : decode cX6_come 14 = .ok (.iconst 1, 1) := by decide +kernel
theorem dX6_come_15 : decode cX6_come 15 = .ok (.invokevirtual 54, 3) := by decide +kernel
theorem dX6_come_18 : decode cX6_come 18 = .ok (.ireturn, 1) := by decide +kernel
theorem dX6_come_19 : decode cX6_come 19 = .ok (.iload_n 3, 1) := by decide +kernel
theorem dX6_come_20 : decode cX6_come 20 = .ok (.iconst 1, 1) := by decide +kernel
theorem dX6_come_21 : decode cX6_come 21 = .ok (.bipush 40, 2) := by decide +kernel
theorem dX6_come_23 : decode cX6_come 23 = .ok (.invokestatic 47, 3) := by decide +kernel
theorem dX6_come_26 : decode cX6_come 26 = .ok (.ifCond .eq 14, 3) := by decide +kernel
theorem dX6_come_29 : decode cX6_come 29 = .ok (.iload 4, 2) := by decide +kernel
theorem dX6_come_31 : decode cX6_come 31 = .ok (.iconst 0, 1) := by decide +kernel
theorem dX6_come_32 : decode cX6_come 32 = .ok (.bipush 20, 2) := by decide +kernel
theorem dX6_come_34 : decode cX6_come 34 = .ok (.invokestatic 47, 3) := by decide +kernel
theorem dX6_come_37 : decode cX6_come 37 = .ok (.ifCond .ne 9, 3) := by decide +kernel
theorem dX6_come_40 : decode cX6_come 40 = .ok (.aload_n 0, 1) := by decide +kernel
theorem dX6_come_41 : decode cX6_come 41 = .ok (.iconst 2, 1) := by decide +kernel
theorem dX6_come_42 : decode cX6_come 42 = .ok (.invokevirtual 54, 3) := by decide +kernel
theorem dX6_come_45 : decode cX6_come 45 = .ok (.ireturn, 1) := by decide +kernel
theorem dX6_come_46 : decode cX6_come 46 = .ok (.aload_n 0, 1) := by decide +kernel
theorem dX6_come_47 : decode cX6_come 47 = .ok (.getfield 27, 3) := by decide +kernel
theorem dX6_come_50 : decode cX6_come 50 = .ok (.getfield 51, 3) := by decide +kernel
theorem dX6_come_53 : decode cX6_come 53 = .ok (.bipush 8, 2) := by decide +kernel
theorem dX6_come_55 : decode cX6_come 55 = .ok (.if_icmp .eq 22, 3) := by decide +kernel
theorem dX6_come_58 : decode cX6_come 58 = .ok (.aload_n 0, 1) := by decide +kernel
theorem dX6_come_59 : decode cX6_come 59 = .ok (.getfield 27, 3) := by decide +kernel
theorem dX6_come_62 : decode cX6_come 62 = .ok (.iconst 3, 1) := by decide +kernel
theorem dX6_come_63 : decode cX6_come 63 = .ok (.iload_n 1, 1) := by decide +kernel
theorem dX6_come_64 : decode cX6_come 64 = .ok (.imul, 1) := by decide +kernel
theorem dX6_come_65 : decode cX6_come 65 = .ok (.iload_n 2, 1) := by decide +kernel
theorem dX6_come_66 : decode cX6_come 66 = .ok (.iadd, 1) := by decide +kernel
theorem dX6_come_67 : decode cX6_come 67 = .ok (.invokevirtual 66, 3) := by decide +kernel
theorem dX6_come_70 : decode cX6_come 70 = .ok (.iload_n 3, 1) := by decide +kernel
theorem dX6_come_71 : decode cX6_come 71 = .ok (.iload 4, 2) := by decide +kernel
theorem dX6_come_73 : decode cX6_come 73 = .ok (.iadd, 1) := by decide +kernel
theorem dX6_come_74 : decode cX6_come 74 = .ok (.if_icmp .ge 9, 3) := by decide +kernel
theorem dX6_come_77 : decode cX6_come 77 = .ok (.aload_n 0, 1) := by decide +kernel
theorem dX6_come_78 : decode cX6_come 78 = .ok (.iconst 3, 1) := by decide +kernel
theorem dX6_come_79 : decode cX6_come 79 = .ok (.invokevirtual 54, 3) := by decide +kernel
theorem dX6_come_82 : decode cX6_come 82 = .ok (.ireturn, 1) := by decide +kernel
theorem dX6_come_83 : decode cX6_come 83 = .ok (.bipush 9, 2) := by decide +kernel
theorem dX6_come_85 : decode cX6_come 85 = .ok (.newarray .int, 2) := by decide +kernel
theorem dX6_come_87 : decode cX6_come 87 = .ok (.dup, 1) := by decide +kernel
theorem dX6_come_88 : decode cX6_come 88 = .ok (.iconst 0, 1) := by decide +kernel
theorem dX6_come_89 : decode cX6_come 89 = .ok (.iload_n 3, 1) := by decide +kernel
theorem dX6_come_90 : decode cX6_come 90 = .ok (.iastore, 1) := by decide +kernel
theorem dX6_come_91 : decode cX6_come 91 = .ok (.dup, 1) := by decide +kernel
theorem dX6_come_92 : decode cX6_come 92 = .ok (.iconst 1, 1) := by decide +kernel
theorem dX6_come_93 : decode cX6_come 93 = .ok (.iload 4, 2) := by decide +kernel
theorem dX6_come_95 : decode cX6_come 95 = .ok (.iastore, 1) := by decide +kernel
theorem dX6_come_96 : decode cX6_come 96 = .ok (.dup, 1) := by decide +kernel
theorem dX6_come_97 : decode cX6_come 97 = .ok (.iconst 2, 1) := by decide +kernel
theorem dX6_come_98 : decode cX6_come 98 = .ok (.bipush 20, 2) := by decide +kernel
theorem dX6_come_100 : decode cX6_come 100 = .ok (.iastore, 1) := by decide +kernel
theorem dX6_come_101 : decode cX6_come 101 = .ok (.dup, 1) := by decide +kernel
theorem dX6_come_102 : decode cX6_come 102 = .ok (.iconst 3, 1) := by decide +kernel
theorem dX6_come_103 : decode cX6_come 103 = .ok (.iload_n 1, 1) := by decide +kernel
theorem dX6_come_104 : decode cX6_come 104 = .ok (.iastore, 1) := by decide +kernel
theorem dX6_come_105 : decode cX6_come 105 = .ok (.dup, 1) := by decide +kernel
theorem dX6_come_106 : decode cX6_come 106 = .ok (.iconst 4, 1) := by decide +kernel
theorem dX6_come_107 : decode cX6_come 107 = .ok (.iload_n 2, 1) := by decide +kernel
theorem dX6_come_108 : decode cX6_come 108 = .ok (.iastore, 1) := by decide +kernel
theorem dX6_come_109 : decode cX6_come 109 = .ok (.dup, 1) := by decide +kernel
theorem dX6_come_110 : decode cX6_come 110 = .ok (.iconst 5, 1) := by decide +kernel
theorem dX6_come_111 : decode cX6_come 111 = .ok (.iload_n 1, 1) := by decide +kernel
theorem dX6_come_112 : decode cX6_come 112 = .ok (.iastore, 1) := by decide +kernel
theorem dX6_come_113 : decode cX6_come 113 = .ok (.dup, 1) := by decide +kernel
theorem dX6_come_114 : decode cX6_come 114 = .ok (.bipush 6, 2) := by decide +kernel
theorem dX6_come_116 : decode cX6_come 116 = .ok (.iconst 0, 1) := by decide +kernel
theorem dX6_come_117 : decode cX6_come 117 = .ok (.iastore, 1) := by decide +kernel
theorem dX6_come_118 : decode cX6_come 118 = .ok (.dup, 1) := by decide +kernel
theorem dX6_come_119 : decode cX6_come 119 = .ok (.bipush 7, 2) := by decide +kernel
theorem dX6_come_121 : decode cX6_come 121 = .ok (.iconst 0, 1) := by decide +kernel
theorem dX6_come_122 : decode cX6_come 122 = .ok (.iastore, 1) := by decide +kernel
theorem dX6_come_123 : decode cX6_come 123 = .ok (.dup, 1) := by decide +kernel
theorem dX6_come_124 : decode cX6_come 124 = .ok (.bipush 8, 2) := by decide +kernel
theorem dX6_come_126 : decode cX6_come 126 = .ok (.iload 5, 2) := by decide +kernel
theorem dX6_come_128 : decode cX6_come 128 = .ok (.ifCond .eq 7, 3) := by decide +kernel
theorem dX6_come_131 : decode cX6_come 131 = .ok (.iconst 1, 1) := by decide +kernel
theorem dX6_come_132 : decode cX6_come 132 = .ok (.goto 4, 3) := by decide +kernel
theorem dX6_come_135 : decode cX6_come 135 = .ok (.iconst 0, 1) := by decide +kernel
theorem dX6_come_136 : decode cX6_come 136 = .ok (.iastore, 1) := by decide +kernel
theorem dX6_come_137 : decode cX6_come 137 = .ok (.astore 6, 2) := by decide +kernel
theorem dX6_come_139 : decode cX6_come 139 = .ok (.aload 6, 2) := by decide +kernel
theorem dX6_come_141 : decode cX6_come 141 = .ok (.iconst 0, 1) := by decide +kernel
theorem dX6_come_142 : decode cX6_come 142 = .ok (.aload_n 0, 1) := by decide +kernel
theorem dX6_come_143 : decode cX6_come 143 = .ok (.getfield 27, 3) := by decide +kernel
theorem dX6_come_146 : decode cX6_come 146 = .ok (.getfield 87, 3) := by decide +kernel
theorem dX6_come_149 : decode cX6_come 149 = .ok (.bipush 9, 2) := by decide +kernel
theorem dX6_come_151 : decode cX6_come 151 = .ok (.aload_n 0, 1) := by decide +kernel
theorem dX6_come_152 : decode cX6_come 152 = .ok (.getfield 27, 3) := by decide +kernel
theorem dX6_come_155 : decode cX6_come 155 = .ok (.getfield 51, 3) := by decide +kernel
theorem dX6_come_158 : decode cX6_come 158 = .ok (.imul, 1) := by decide +kernel
theorem dX6_come_159 : decode cX6_come 159 = .ok (.bipush 9, 2) := by decide +kernel
theorem dX6_come_161 : decode cX6_come 161 = .ok (.invokestatic 90, 3) := by decide +kernel
theorem dX6_come_164 : decode cX6_come 164 = .ok (.aload_n 0, 1) := by decide +kernel
theorem dX6_come_165 : decode cX6_come 165 = .ok (.getfield 27, 3) := by decide +kernel
theorem dX6_come_168 : decode cX6_come 168 = .ok (.dup, 1) := by decide +kernel
theorem dX6_come_169 : decode cX6_come 169 = .ok (.getfield 51, 3) := by decide +kernel
theorem dX6_come_172 : decode cX6_come 172 = .ok (.iconst 1, 1) := by decide +kernel
theorem dX6_come_173 : decode cX6_come 173 = .ok (.iadd, 1) := by decide +kernel
theorem dX6_come_174 : decode cX6_come 174 = .ok (.putfield 51, 3) := by decide +kernel
theorem dX6_come_177 : decode cX6_come 177 = .ok (.aload_n 0, 1) := by decide +kernel
theorem dX6_come_178 : decode cX6_come 178 = .ok (.getfield 27, 3) := by decide +kernel
theorem dX6_come_181 : decode cX6_come 181 = .ok (.getfield 51, 3) := by decide +kernel
theorem dX6_come_184 : decode cX6_come 184 = .ok (.iconst 1, 1) := by decide +kernel
theorem dX6_come_185 : decode cX6_come 185 = .ok (.isub, 1) := by decide +kernel
theorem dX6_come_186 : decode cX6_come 186 = .ok (.ireturn, 1) := by decide +kernel
set_option maxRecDepth 20000 in
theorem ggX6_send_X6_isCourier : GoodIn wsX6_send wsX6_isCourier := goodIn_r _ [11, 2, 12, 13, 10, 14, 29, 30, 31, 32, 33, 34, 35, 36, 37, 38, 39, 40, 41, 42, 43, 44] (by decide +kernel) (by decide +kernel)
set_option maxRecDepth 20000 in
theorem gX6_send_X6_isCourier : GoodIn wsX6_send (wsV RX6 96 RX6 yX6_isCourier wsX6_isCourier) := goodIn_app (goodIn_of _ (by decide +kernel)) ggX6_send_X6_isCourier
set_option maxRecDepth 20000 in
theorem ggX6_send_X6_isIn : GoodIn wsX6_send wsX6_isIn := goodIn_r _ [14] (by decide +kernel) (by decide +kernel)
set_option maxRecDepth 20000 in
theorem gX6_send_X6_isIn : GoodIn wsX6_send (va_wsS RX6 47 yX6_isIn wsX6_isIn) := goodIn_app (goodIn_of _ (by decide +kernel)) ggX6_send_X6_isIn
set_option maxRecDepth 20000 in
theorem ggX6_send_X6_no : GoodIn wsX6_send wsX6_no := goodIn_r _ [18, 1, 29, 30, 31, 32, 33, 34, 35, 36] (by decide +kernel) (by decide +kernel)
set_option maxRecDepth 20000 in
theorem gX6_send_X6_no : GoodIn wsX6_send (wsV RX6 54 RX6 yX6_no wsX6_no) := goodIn_app (goodIn_of _ (by decide +kernel)) ggX6_send_X6_no
set_option maxRecDepth 20000 in
theorem ggX6_send_X5_get : GoodIn wsX6_send wsX5_get := goodIn_r _ [23, 24, 37, 38, 39, 40, 41, 42, 43, 44] (by decide +kernel) (by decide +kernel)
set_option maxRecDepth 20000 in
theorem gX6_send_X5_get : GoodIn wsX6_send (wsV RX6 75 RX5 yX5_get wsX5_get) := goodIn_app (goodIn_of _ (by decide +kernel)) ggX6_send_X5_get
set_option maxRecDepth 20000 in
theorem ggX6_send_X5_set : GoodIn wsX6_send wsX5_set := goodIn_r _ [28, 24, 37, 38, 39, 40, 41, 42, 43, 44] (by decide +kernel) (by decide +kernel)
set_option maxRecDepth 20000 in
theorem gX6_send_X5_set : GoodIn wsX6_send (wsV RX6 100 RX5 yX5_set wsX5_set) := goodIn_app (goodIn_of _ (by decide +kernel)) ggX6_send_X5_set
theorem dX6_send_0 : decode cX6_send 0 = .ok (.aload_n 0, 1) := by decide +kernel
theorem dX6_send_1 : decode cX6_send 1 = .ok (.iconst 0, 1) := by decide +kernel
theorem dX6_send_2 : decode cX6_send 2 = .ok (.putfield 43, 3) := by decide +kernel
theorem dX6_send_5 : decode cX6_send 5 = .ok (.aload_n 0, 1) := by decide +kernel
theorem dX6_send_6 : decode cX6_send 6 = .ok (.iload_n 1, 1) := by decide +kernel
theorem dX6_send_7 : decode cX6_send 7 = .ok (.invokevirtual 96, 3) := by decide +kernel
theorem dX6_send_10 : decode cX6_send 10 = .ok (.ifCond .eq 13, 3) := by decide +kernel
theorem dX6_send_13 : decode cX6_send 13 = .ok (.iload_n 2, 1) := by decide +kernel
theorem dX6_send_14 : decode cX6_send 14 = .ok (.iconst 0, 1) := by decide +kernel
theorem dX6_send_15 : decode cX6_send 15 = .ok (.bipush 11, 2) := by decide +kernel
theorem dX6_send_17 : decode cX6_send 17 = .ok (.invokestatic 47, 3) := by decide +kernel
theorem dX6_send_20 : decode cX6_send 20 = .ok (.ifCond .ne 9, 3) := by decide +kernel
theorem dX6_send_23 : decode cX6_send 23 = .ok (.aload_n 0, 1) := by decide +kernel
theorem dX6_send_24 : decode cX6_send 24 = .ok (.iconst 1, 1) := by decide +kernel
theorem dX6_send_25 : decode cX6_send 25 = .ok (.invokevirtual 54, 3) := by decide +kernel
theorem dX6_send_28 : decode cX6_send 28 = .ok (.ireturn, 1) := by decide +kernel
theorem dX6_send_29 : decode cX6_send 29 = .ok (.aload_n 0, 1) := by decide +kernel
theorem dX6_send_30 : decode cX6_send 30 = .ok (.getfield 27, 3) := by decide +kernel
theorem dX6_send_33 : decode cX6_send 33 = .ok (.iload_n 1, 1) := by decide +kernel
theorem dX6_send_34 : decode cX6_send 34 = .ok (.bipush 6, 2) := by decide +kernel
theorem dX6_send_36 : decode cX6_send 36 = .ok (.invokevirtual 75, 3) := by decide +kernel
theorem dX6_send_39 : decode cX6_send 39 = .ok (.iconst 3, 1) := by decide +kernel
theorem dX6_send_40 : decode cX6_send 40 = .ok (.if_icmp .ne 9, 3) := by decide +kernel
theorem dX6_send_43 : decode cX6_send 43 = .ok (.aload_n 0, 1) := by decide +kernel
theorem dX6_send_44 : decode cX6_send 44 = .ok (.iconst 2, 1) := by decide +kernel
theorem dX6_send_45 : decode cX6_send 45 = .ok (.invokevirtual 54, 3) := by decide +kernel
theorem dX6_send_48 : decode cX6_send 48 = .ok (.ireturn, 1) := by decide +kernel
theorem dX6_send_49 : decode cX6_send 49 = .ok (.aload_n 0, 1) := by decide +kernel
theorem dX6_send_50 : decode cX6_send 50 = .ok (.getfield 27, 3) := by decide +kernel
theorem dX6_send_53 : decode cX6_send 53 = .ok (.iload_n 1, 1) := by decide +kernel
theorem dX6_send_54 : decode cX6_send 54 = .ok (.iconst 5, 1) := by decide +kernel
theorem dX6_send_55 : decode cX6_send 55 = .ok (.iload_n 2, 1) := by decide +kernel
theorem dX6_send_56 : decode cX6_send 56 = .ok (.invokevirtual 100, 3) := by decide +kernel
theorem dX6_send_59 : decode cX6_send 59 = .ok (.aload_n 0, 1) := by decide +kernel
theorem dX6_send_60 : decode cX6_send 60 = .ok (.getfield 27, 3) := by decide +kernel
theorem dX6_send_63 : decode cX6_send 63 = .ok (.iload_n 1, 1) := by decide +kernel
theorem dX6_send_64 : decode cX6_send 64 = .ok (.bipush 6, 2) := by decide +kernel
theorem dX6_send_66 : decode cX6_send 66 = .ok (.iconst 0, 1) := by decide +kernel
theorem dX6_send_67 : decode cX6_send 67 = .ok (.invokevirtual 100, 3) := by decide +kernel
theorem dX6_send_70 : decode cX6_send 70 = .ok (.iload_n 2, 1) := by decide +kernel
theorem dX6_send_71 : decode cX6_send 71 = .ok (.aload_n 0, 1) := by decide +kernel
theorem dX6_send_72 : decode cX6_send 72 = .ok (.getfield 27, 3) := by decide +kernel
theorem dX6_send_75 : decode cX6_send 75 = .ok (.iload_n 1, 1) := by decide +kernel
theorem dX6_send_76 : decode cX6_send 76 = .ok (.iconst 3, 1) := by decide +kernel
theorem dX6_send_77 : decode cX6_send 77 = .ok (.invokevirtual 75, 3) := by decide +kernel
theorem dX6_send_80 : decode cX6_send 80 = .ok (.isub, 1) := by decide +kernel
theorem dX6_send_81 : decode cX6_send 81 = .ok (.invokestatic 104, 3) := by decide +kernel
theorem dX6_send_84 : decode cX6_send 84 = .ok (.ireturn, 1) := by decide +kernel
set_option maxRecDepth 20000 in
theorem ggX6_load_X6_isCourier : GoodIn wsX6_load wsX6_isCourier := goodIn_r _ [7, 2, 8, 9, 6, 10, 31, 32, 33, 34, 35, 36, 37, 38, 39, 40, 41, 42, 43, 44, 45, 46] (by decide +kernel) (by decide +kernel)
set_option maxRecDepth 20000 in
theorem gX6_load_X6_isCourier : GoodIn wsX6_load (wsV RX6 96 RX6 yX6_isCourier wsX6_isCourier) := goodIn_app (goodIn_of _ (by decide +kernel)) ggX6_load_X6_isCourier
set_option maxRecDepth 20000 in
theorem ggX6_load_X6_no : GoodIn wsX6_load wsX6_no := goodIn_r _ [14, 1, 31, 32, 33, 34, 35, 36, 37, 38] (by decide +kernel) (by decide +kernel)
set_option maxRecDepth 20000 in
theorem gX6_load_X6_no : GoodIn wsX6_load (wsV RX6 54 RX6 yX6_no wsX6_no) := goodIn_app (goodIn_of _ (by decide +kernel)) ggX6_load_X6_no
set_option maxRecDepth 20000 in
theorem ggX6_load_X6_isIn : GoodIn wsX6_load wsX6_isIn := goodIn_r _ [10] (by decide +kernel) (by decide +kernel)
set_option maxRecDepth 20000 in
theorem gX6_load_X6_isIn : GoodIn wsX6_load (va_wsS RX6 47 yX6_isIn wsX6_isIn) := goodIn_app (goodIn_of _ (by decide +kernel)) ggX6_load_X6_isIn
set_option maxRecDepth 20000 in
theorem ggX6_load_X5_get : GoodIn wsX6_load wsX5_get := goodIn_r _ [19, 20, 39, 40, 41, 42, 43, 44, 45, 46] (by decide +kernel) (by decide +kernel)
set_option maxRecDepth 20000 in
theorem gX6_load_X5_get : GoodIn wsX6_load (wsV RX6 75 RX5 yX5_get wsX5_get) := goodIn_app (goodIn_of _ (by decide +kernel)) ggX6_load_X5_get
set_option maxRecDepth 20000 in
theorem ggX6_load_X5_holds : GoodIn wsX6_load wsX5_holds := goodIn_r _ [24, 25, 26, 39, 40, 41, 42, 43, 44, 45, 46] (by decide +kernel) (by decide +kernel)
set_option maxRecDepth 20000 in
theorem gX6_load_X5_holds : GoodIn wsX6_load (wsV RX6 66 RX5 yX5_holds wsX5_holds) := goodIn_app (goodIn_of _ (by decide +kernel)) ggX6_load_X5_holds
set_option maxRecDepth 20000 in
theorem ggX6_load_X5_set : GoodIn wsX6_load wsX5_set := goodIn_r _ [30, 20, 39, 40, 41, 42, 43, 44, 45, 46] (by decide +kernel) (by decide +kernel)
set_option maxRecDepth 20000 in
theorem gX6_load_X5_set : GoodIn wsX6_load (wsV RX6 100 RX5 yX5_set wsX5_set) := goodIn_app (goodIn_of _ (by decide +kernel)) ggX6_load_X5_set
theorem dX6_load_0 : decode cX6_load 0 = .ok (.aload_n 0, 1) := by decide +kernel
theorem dX6_load_1 : decode cX6_load 1 = .ok (.iconst 0, 1) := by decide +kernel
theorem dX6_load_2 : decode cX6_load 2 = .ok (.putfield 43, 3) := by decide +kernel
theorem dX6_load_5 : decode cX6_load 5 = .ok (.aload_n 0, 1) := by decide +kernel
theorem dX6_load_6 : decode cX6_load 6 = .ok (.iload_n 1, 1) := by decide +kernel
theorem dX6_load_7 : decode cX6_load 7 = .ok (.invokevirtual 96, 3) := by decide +kernel
theorem dX6_load_10 : decode cX6_load 10 = .ok (.ifCond .ne 9, 3) := by decide +kernel
theorem dX6_load_13 : decode cX6_load 13 = .ok (.aload_n 0, 1) := by decide +kernel
theorem dX6_load_14 : decode cX6_load 14 = .ok (.iconst 1, 1) := by decide +kernel
theorem dX6_load_15 : decode cX6_load 15 = .ok (.invokevirtual 54, 3) := by decide +kernel
theorem dX6_load_18 : decode cX6_load 18 = .ok (.ireturn, 1) := by decide +kernel
theorem dX6_load_19 : decode cX6_load 19 = .ok (.iload_n 2, 1) := by decide +kernel
theorem dX6_load_20 : decode cX6_load 20 = .ok (.ifCond .eq 14, 3) := by decide +kernel
theorem dX6_load_23 : decode cX6_load 23 = .ok (.iload_n 2, 1) := by decide +kernel
theorem dX6_load_24 : decode cX6_load 24 = .ok (.bipush (-20), 2) := by decide +kernel
theorem dX6_load_26 : decode cX6_load 26 = .ok (.bipush 20, 2) := by decide +kernel
theorem dX6_load_28 : decode cX6_load 28 = .ok (.invokestatic 47, 3) := by decide +kernel
theorem dX6_load_31 : decode cX6_load 31 = .ok (.ifCond .ne 9, 3) := by decide +kernel
theorem dX6_load_34 : decode cX6_load 34 = .ok (.aload_n 0, 1) := by decide +kernel
theorem dX6_load_35 : decode cX6_load 35 = .ok (.iconst 2, 1) := by decide +kernel
theorem dX6_load_36 : decode cX6_load 36 = .ok (.invokevirtual 54, 3) := by decide +kernel
theorem dX6_load_39 : decode cX6_load 39 = .ok (.ireturn, 1) := by decide +kernel
theorem dX6_load_40 : decode cX6_load 40 = .ok (.aload_n 0, 1) := by decide +kernel
theorem dX6_load_41 : decode cX6_load 41 = .ok (.getfield 27, 3) := by decide +kernel
theorem dX6_load_44 : decode cX6_load 44 = .ok (.iload_n 1, 1) := by decide +kernel
theorem dX6_load_45 : decode cX6_load 45 = .ok (.iconst 1, 1) := by decide +kernel
theorem dX6_load_46 : decode cX6_load 46 = .ok (.invokevirtual 75, 3) := by decide +kernel
theorem dX6_load_49 : decode cX6_load 49 = .ok (.iload_n 2, 1) := by decide +kernel
theorem dX6_load_50 : decode cX6_load 50 = .ok (.iadd, 1) := by decide +kernel
theorem dX6_load_51 : decode cX6_load 51 = .ok (.istore_n 3, 1) := by decide +kernel
theorem dX6_load_52 : decode cX6_load 52 = .ok (.iconst 3, 1) := by decide +kernel
theorem dX6_load_53 : decode cX6_load 53 = .ok (.aload_n 0, 1) := by decide +kernel
theorem dX6_load_54 : decode cX6_load 54 = .ok (.getfield 27, 3) := by decide +kernel
theorem dX6_load_57 : decode cX6_load 57 = .ok (.iload_n 1, 1) := by decide +kernel
theorem dX6_load_58 : decode cX6_load 58 = .ok (.iconst 3, 1) := by decide +kernel
theorem dX6_load_59 : decode cX6_load 59 = .ok (.invokevirtual 75, 3) := by decide +kernel
theorem dX6_load_62 : decode cX6_load 62 = .ok (.imul, 1) := by decide +kernel
theorem dX6_load_63 : decode cX6_load 63 = .ok (.aload_n 0, 1) := by decide +kernel
theorem dX6_load_64 : decode cX6_load 64 = .ok (.getfield 27, 3) := by decide +kernel
theorem dX6_load_67 : decode cX6_load 67 = .ok (.iload_n 1, 1) := by decide +kernel
theorem dX6_load_68 : decode cX6_load 68 = .ok (.iconst 4, 1) := by decide +kernel
theorem dX6_load_69 : decode cX6_load 69 = .ok (.invokevirtual 75, 3) := by decide +kernel
theorem dX6_load_72 : decode cX6_load 72 = .ok (.iadd, 1) := by decide +kernel
theorem dX6_load_73 : decode cX6_load 73 = .ok (.istore 4, 2) := by decide +kernel
theorem dX6_load_75 : decode cX6_load 75 = .ok (.aload_n 0, 1) := by decide +kernel
theorem dX6_load_76 : decode cX6_load 76 = .ok (.getfield 27, 3) := by decide +kernel
theorem dX6_load_79 : decode cX6_load 79 = .ok (.iload_n 1, 1) := by decide +kernel
theorem dX6_load_80 : decode cX6_load 80 = .ok (.bipush 6, 2) := by decide +kernel
theorem dX6_load_82 : decode cX6_load 82 = .ok (.invokevirtual 75, 3) := by decide +kernel
theorem dX6_load_85 : decode cX6_load 85 = .ok (.iconst 3, 1) := by decide +kernel
theorem dX6_load_86 : decode cX6_load 86 = .ok (.if_icmp .eq 36, 3) := by decide +kernel
theorem dX6_load_89 : decode cX6_load 89 = .ok (.iload_n 3, 1) := by decide +kernel
theorem dX6_load_90 : decode cX6_load 90 = .ok (.iconst 0, 1) := by decide +kernel
theorem dX6_load_91 : decode cX6_load 91 = .ok (.bipush 20, 2) := by decide +kernel
theorem dX6_load_93 : decode cX6_load 93 = .ok (.invokestatic 47, 3) := by decide +kernel
theorem dX6_load_96 : decode cX6_load 96 = .ok (.ifCond .eq 26, 3) := by decide +kernel
theorem dX6_load_99 : decode cX6_load 99 = .ok (.aload_n 0, 1) := by decide +kernel
theorem dX6_load_100 : decode cX6_load 100 = .ok (.getfield 27, 3) := by decide +kernel
theorem dX6_load_103 : decode cX6_load 103 = .ok (.iload 4, 2) := by decide +kernel
theorem dX6_load_105 : decode cX6_load 105 = .ok (.invokevirtual 66, 3) := by decide +kernel
theorem dX6_load_108 : decode cX6_load 108 = .ok (.aload_n 0, 1) := by decide +kernel
theorem dX6_load_109 : decode cX6_load 109 = .ok (.getfield 27, 3) := by decide +kernel
theorem dX6_load_112 : decode cX6_load 112 = .ok (.iload_n 1, 1) := by decide +kernel
theorem dX6_load_113 : decode cX6_load 113 = .ok (.iconst 0, 1) := by decide +kernel
theorem dX6_load_114 : decode cX6_load 114 = .ok (.invokevirtual 75, 3) := by decide +kernel
theorem dX6_load_117 : decode cX6_load 117 = .ok (.iload_n 3, 1) := by decide +kernel
theorem dX6_load_118 : decode cX6_load 118 = .ok (.iadd, 1) := by decide +kernel
theorem dX6_load_119 : decode cX6_load 119 = .ok (.if_icmp .ge 9, 3) := by decide +kernel
theorem dX6_load_122 : decode cX6_load 122 = .ok (.aload_n 0, 1) := by decide +kernel
theorem dX6_load_123 : decode cX6_load 123 = .ok (.iconst 3, 1) := by decide +kernel
theorem dX6_load_124 : decode cX6_load 124 = .ok (.invokevirtual 54, 3) := by decide +kernel
theorem dX6_load_127 : decode cX6_load 127 = .ok (.ireturn, 1) := by decide +kernel
theorem dX6_load_128 : decode cX6_load 128 = .ok (.aload_n 0, 1) := by decide +kernel
theorem dX6_load_129 : decode cX6_load 129 = .ok (.getfield 27, 3) := by decide +kernel
theorem dX6_load_132 : decode cX6_load 132 = .ok (.iload_n 1, 1) := by decide +kernel
theorem dX6_load_133 : decode cX6_load 133 = .ok (.iconst 1, 1) := by decide +kernel
theorem dX6_load_134 : decode cX6_load 134 = .ok (.iload_n 3, 1) := by decide +kernel
theorem dX6_load_135 : decode cX6_load 135 = .ok (.invokevirtual 100, 3) := by decide +kernel
theorem dX6_load_138 : decode cX6_load 138 = .ok (.iload_n 3, 1) := by decide +kernel
theorem dX6_load_139 : decode cX6_load 139 = .ok (.ireturn, 1) := by decide +kernel
set_option maxRecDepth 20000 in
theorem ggX6_courier_X6_isCourier : GoodIn wsX6_courier wsX6_isCourier := goodIn_r _ [7, 2, 8, 9, 6, 10, 21, 22, 23, 24, 25, 26, 27, 28, 29, 30, 31, 32, 33, 34, 35, 36] (by decide +kernel) (by decide +kernel)
set_option maxRecDepth 20000 in
theorem gX6_courier_X6_isCourier : GoodIn wsX6_courier (wsV RX6 96 RX6 yX6_isCourier wsX6_isCourier) := goodIn_app (goodIn_of _ (by decide +kernel)) ggX6_courier_X6_isCourier
set_option maxRecDepth 20000 in
theorem ggX6_courier_X6_isIn : GoodIn wsX6_courier wsX6_isIn := goodIn_r _ [10] (by decide +kernel) (by decide +kernel)
set_option maxRecDepth 20000 in
theorem gX6_courier_X6_isIn : GoodIn wsX6_courier (va_wsS RX6 47 yX6_isIn wsX6_isIn) := goodIn_app (goodIn_of _ (by decide +kernel)) ggX6_courier_X6_isIn
set_option maxRecDepth 20000 in
theorem ggX6_courier_X5_get : GoodIn wsX6_courier wsX5_get := goodIn_r _ [15, 16, 29, 30, 31, 32, 33, 34, 35, 36] (by decide +kernel) (by decide +kernel)
set_option maxRecDepth 20000 in
theorem gX6_courier_X5_get : GoodIn wsX6_courier (wsV RX6 75 RX5 yX5_get wsX5_get) := goodIn_app (goodIn_of _ (by decide +kernel)) ggX6_courier_X5_get
set_option maxRecDepth 20000 in
theorem ggX6_courier_X6_no : GoodIn wsX6_courier wsX6_no := goodIn_r _ [20, 1, 21, 22, 23, 24, 25, 26, 27, 28] (by decide +kernel) (by decide +kernel)
set_option maxRecDepth 20000 in
theorem gX6_courier_X6_no : GoodIn wsX6_courier (wsV RX6 54 RX6 yX6_no wsX6_no) := goodIn_app (goodIn_of _ (by decide +kernel)) ggX6_courier_X6_no
theorem dX6_courier_0 : decode cX6_courier 0 = .ok (.aload_n 0, 1) := by decide +kernel
theorem dX6_courier_1 : decode cX6_courier 1 = .ok (.iconst 0, 1) := by decide +kernel
theorem dX6_courier_2 : decode cX6_courier 2 = .ok (.putfield 43, 3) := by decide +kernel
theorem dX6_courier_5 : decode cX6_courier 5 = .ok (.aload_n 0, 1) := by decide +kernel
theorem dX6_courier_6 : decode cX6_courier 6 = .ok (.iload_n 1, 1) := by decide +kernel
theorem dX6_courier_7 : decode cX6_courier 7 = .ok (.invokevirtual 96, 3) := by decide +kernel
theorem dX6_courier_10 : decode cX6_courier 10 = .ok (.ifCond .eq 25, 3) := by decide +kernel
theorem dX6_courier_13 : decode cX6_courier 13 = .ok (.iload_n 2, 1) := by decide +kernel
theorem dX6_courier_14 : decode cX6_courier 14 = .ok (.iconst 0, 1) := by decide +kernel
theorem dX6_courier_15 : decode cX6_courier 15 = .ok (.bipush 8, 2) := by decide +kernel
theorem dX6_courier_17 : decode cX6_courier 17 = .ok (.invokestatic 47, 3) := by decide +kernel
theorem dX6_courier_20 : decode cX6_courier 20 = .ok (.ifCond .eq 15, 3) := by decide +kernel
theorem dX6_courier_23 : decode cX6_courier 23 = .ok (.aload_n 0, 1) := by decide +kernel
theorem dX6_courier_24 : decode cX6_courier 24 = .ok (.getfield 27, 3) := by decide +kernel
theorem dX6_courier_27 : decode cX6_courier 27 = .ok (.iload_n 1, 1) := by decide +kernel
theorem dX6_courier_28 : decode cX6_courier 28 = .ok (.iload_n 2, 1) := by decide +kernel
theorem dX6_courier_29 : decode cX6_courier 29 = .ok (.invokevirtual 75, 3) := by decide +kernel
theorem dX6_courier_32 : decode cX6_courier 32 = .ok (.goto 8, 3) := by decide +kernel
theorem dX6_courier_35 : decode cX6_courier 35 = .ok (.aload_n 0, 1) := by decide +kernel
theorem dX6_courier_36 : decode cX6_courier 36 = .ok (.iconst 1, 1) := by decide +kernel
theorem dX6_courier_37 : decode cX6_courier 37 = .ok (.invokevirtual 54, 3) := by decide +kernel
theorem dX6_courier_40 : decode cX6_courier 40 = .ok (.ireturn, 1) := by decide +kernel
set_option maxRecDepth 20000 in
theorem ggX6_wager_X6_isIn : GoodIn wsX6_wager wsX6_isIn := goodIn_r _ [9] (by decide +kernel) (by decide +kernel)
set_option maxRecDepth 20000 in
theorem gX6_wager_X6_isIn : GoodIn wsX6_wager (va_wsS RX6 47 yX6_isIn wsX6_isIn) := goodIn_app (goodIn_of _ (by decide +kernel)) ggX6_wager_X6_isIn
set_option maxRecDepth 20000 in
theorem ggX6_wager_X6_no : GoodIn wsX6_wager wsX6_no := goodIn_r _ [13, 1, 14, 15, 16, 17, 18, 19, 20, 21] (by decide +kernel) (by decide +kernel)
set_option maxRecDepth 20000 in
theorem gX6_wager_X6_no : GoodIn wsX6_wager (wsV RX6 54 RX6 yX6_no wsX6_no) := goodIn_app (goodIn_of _ (by decide +kernel)) ggX6_wager_X6_no
theorem dX6_wager_0 : decode cX6_wager 0 = .ok (.aload_n 0, 1) := by decide +kernel
theorem dX6_wager_1 : decode cX6_wager 1 = .ok (.iconst 0, 1) := by decide +kernel
theorem dX6_wager_2 : decode cX6_wager 2 = .ok (.putfield 43, 3) := by decide +kernel
theorem dX6_wager_5 : decode cX6_wager 5 = .ok (.iload_n 1, 1) := by decide +kernel
theorem dX6_wager_6 : decode cX6_wager 6 = .ok (.iconst 0, 1) := by decide +kernel
theorem dX6_wager_7 : decode cX6_wager 7 = .ok (.sipush 500, 3) := by decide +kernel
theorem dX6_wager_10 : decode cX6_wager 10 = .ok (.invokestatic 47, 3) := by decide +kernel
theorem dX6_wager_13 : decode cX6_wager 13 = .ok (.ifCond .eq 13, 3) := by decide +kernel
theorem dX6_wager_16 : decode cX6_wager 16 = .ok (.iload_n 2, 1) := by decide +kernel
theorem dX6_wager_17 : decode cX6_wager 17 = .ok (.iconst 1, 1) := by decide +kernel
theorem dX6_wager_18 : decode cX6_wager 18 = .ok (.bipush 100, 2) := by decide +kernel
theorem dX6_wager_20 : decode cX6_wager 20 = .ok (.invokestatic 47, 3) := by decide +kernel
theorem dX6_wager_23 : decode cX6_wager 23 = .ok (.ifCond .ne 9, 3) := by decide +kernel
theorem dX6_wager_26 : decode cX6_wager 26 = .ok (.aload_n 0, 1) := by decide +kernel
theorem dX6_wager_27 : decode cX6_wager 27 = .ok (.iconst 1, 1) := by decide +kernel
theorem dX6_wager_28 : decode cX6_wager 28 = .ok (.invokevirtual 54, 3) := by decide +kernel
theorem dX6_wager_31 : decode cX6_wager 31 = .ok (.ireturn, 1) := by decide +kernel
theorem dX6_wager_32 : decode cX6_wager 32 = .ok (.aload_n 0, 1) := by decide +kernel
theorem dX6_wager_33 : decode cX6_wager 33 = .ok (.getfield 107, 3) := by decide +kernel
theorem dX6_wager_36 : decode cX6_wager 36 = .ok (.bipush 12, 2) := by decide +kernel
theorem dX6_wager_38 : decode cX6_wager 38 = .ok (.if_icmp .eq 14, 3) := by decide +kernel
theorem dX6_wager_41 : decode cX6_wager 41 = .ok (.aload_n 0, 1) := by decide +kernel
theorem dX6_wager_42 : decode cX6_wager 42 = .ok (.getfield 27, 3) := by decide +kernel
theorem dX6_wager_45 : decode cX6_wager 45 = .ok (.getfield 110, 3) := by decide +kernel
theorem dX6_wager_48 : decode cX6_wager 48 = .ok (.iconst (-1), 1) := by decide +kernel
theorem dX6_wager_49 : decode cX6_wager 49 = .ok (.if_icmp .eq 9, 3) := by decide +kernel
theorem dX6_wager_52 : decode cX6_wager 52 = .ok (.aload_n 0, 1) := by decide +kernel
theorem dX6_wager_53 : decode cX6_wager 53 = .ok (.iconst 2, 1) := by decide +kernel
theorem dX6_wager_54 : decode cX6_wager 54 = .ok (.invokevirtual 54, 3) := by decide +kernel
theorem dX6_wager_57 : decode cX6_wager 57 = .ok (.ireturn, 1) := by decide +kernel
theorem dX6_wager_58 : decode cX6_wager 58 = .ok (.aload_n 0, 1) := by decide +kernel
theorem dX6_wager_59 : decode cX6_wager 59 = .ok (.getfield 16, 3) := by decide +kernel
theorem dX6_wager_62 : decode cX6_wager 62 = .ok (.aload_n 0, 1) := by decide +kernel
theorem dX6_wager_63 : decode cX6_wager 63 = .ok (.getfield 107, 3) := by decide +kernel
theorem dX6_wager_66 : decode cX6_wager 66 = .ok (.iload_n 1, 1) := by decide +kernel
theorem dX6_wager_67 : decode cX6_wager 67 = .ok (.iastore, 1) := by decide +kernel
theorem dX6_wager_68 : decode cX6_wager 68 = .ok (.aload_n 0, 1) := by decide +kernel
theorem dX6_wager_69 : decode cX6_wager 69 = .ok (.getfield 19, 3) := by decide +kernel
theorem dX6_wager_72 : decode cX6_wager 72 = .ok (.aload_n 0, 1) := by decide +kernel
theorem dX6_wager_73 : decode cX6_wager 73 = .ok (.getfield 107, 3) := by decide +kernel
theorem dX6_wager_76 : decode cX6_wager 76 = .ok (.iload_n 2, 1) := by decide +kernel
theorem dX6_wager_77 : decode cX6_wager 77 = .ok (.iastore, 1) := by decide +kernel
theorem dX6_wager_78 : decode cX6_wager 78 = .ok (.aload_n 0, 1) := by decide +kernel
theorem dX6_wager_79 : decode cX6_wager 79 = .ok (.dup, 1) := by decide +kernel
theorem dX6_wager_80 : decode cX6_wager 80 = .ok (.getfield 107, 3) := by decide +kernel
theorem dX6_wager_83 : decode cX6_wager 83 = .ok (.iconst 1, 1) := by decide +kernel
theorem dX6_wager_84 : decode cX6_wager 84 = .ok (.iadd, 1) := by decide +kernel
theorem dX6_wager_85 : decode cX6_wager 85 = .ok (.putfield 107, 3) := by decide +kernel
theorem dX6_wager_88 : decode cX6_wager 88 = .ok (.aload_n 0, 1) := by decide +kernel
theorem dX6_wager_89 : decode cX6_wager 89 = .ok (.getfield 107, 3) := by decide +kernel
theorem dX6_wager_92 : decode cX6_wager 92 = .ok (.iconst 1, 1) := by decide +kernel
theorem dX6_wager_93 : decode cX6_wager 93 = .ok (.isub, 1) := by decide +kernel
theorem dX6_wager_94 : decode cX6_wager 94 = .ok (.ireturn, 1) := by decide +kernel
theorem dX6_stakes_0 : decode cX6_stakes 0 = .ok (.iconst 0, 1) := by decide +kernel
theorem dX6_stakes_1 : decode cX6_stakes 1 = .ok (.istore_n 1, 1) := by decide +kernel
theorem dX6_stakes_2 : decode cX6_stakes 2 = .ok (.iconst 0, 1) := by decide +kernel
theorem dX6_stakes_3 : decode cX6_stakes 3 = .ok (.istore_n 2, 1) := by decide +kernel
theorem dX6_stakes_4 : decode cX6_stakes 4 = .ok (.iload_n 2, 1) := by decide +kernel
theorem dX6_stakes_5 : decode cX6_stakes 5 = .ok (.aload_n 0, 1) := by decide +kernel
theorem dX6_stakes_6 : decode cX6_stakes 6 = .ok (.getfield 107, 3) := by decide +kernel
theorem dX6_stakes_9 : decode cX6_stakes 9 = .ok (.if_icmp .ge 18, 3) := by decide +kernel
theorem dX6_stakes_12 : decode cX6_stakes 12 = .ok (.iload_n 1, 1) := by decide +kernel
theorem dX6_stakes_13 : decode cX6_stakes 13 = .ok (.aload_n 0, 1) := by decide +kernel
theorem dX6_stakes_14 : decode cX6_stakes 14 = .ok (.getfield 19, 3) := by decide +kernel
theorem dX6_stakes_17 : decode cX6_stakes 17 = .ok (.iload_n 2, 1) := by decide +kernel
theorem dX6_stakes_18 : decode cX6_stakes 18 = .ok (.iaload, 1) := by decide +kernel
theorem dX6_stakes_19 : decode cX6_stakes 19 = .ok (.iadd, 1) := by decide +kernel
theorem dX6_stakes_20 : decode cX6_stakes 20 = .ok (.istore_n 1, 1) := by decide +kernel
theorem dX6_stakes_21 : decode cX6_stakes 21 = .ok (.iinc 2 1, 3) := by decide +kernel
theorem dX6_stakes_24 : decode cX6_stakes 24 = .ok (.goto (-20), 3) := by decide +kernel
theorem dX6_stakes_27 : decode cX6_stakes 27 = .ok (.iload_n 1, 1) := by decide +kernel
theorem dX6_stakes_28 : decode cX6_stakes 28 = .ok (.ireturn, 1) := by decide +kernel
set_option maxRecDepth 20000 in
theorem ggX6_won_X6_stakes : GoodIn wsX6_won wsX6_stakes := goodIn_r _ [12, 7, 13, 14, 15, 16, 17, 18, 19, 20, 21] (by decide +kernel) (by decide +kernel)
set_option maxRecDepth 20000 in
theorem gX6_won_X6_stakes : GoodIn wsX6_won (wsV RX6 113 RX6 yX6_stakes wsX6_stakes) := goodIn_app (goodIn_of _ (by decide +kernel)) ggX6_won_X6_stakes
theorem dX6_won_0 : decode cX6_won 0 = .ok (.aload_n 0, 1) := by decide +kernel
theorem dX6_won_1 : decode cX6_won 1 = .ok (.getfield 27, 3) := by decide +kernel
theorem dX6_won_4 : decode cX6_won 4 = .ok (.getfield 110, 3) := by decide +kernel
theorem dX6_won_7 : decode cX6_won 7 = .ok (.iconst (-1), 1) := by decide +kernel
theorem dX6_won_8 : decode cX6_won 8 = .ok (.if_icmp .ne 5, 3) := by decide +kernel
theorem dX6_won_11 : decode cX6_won 11 = .ok (.iconst 0, 1) := by decide +kernel
theorem dX6_won_12 : decode cX6_won 12 = .ok (.ireturn, 1) := by decide +kernel
theorem dX6_won_13 : decode cX6_won 13 = .ok (.aload_n 0, 1) := by decide +kernel
theorem dX6_won_14 : decode cX6_won 14 = .ok (.getfield 16, 3) := by decide +kernel
theorem dX6_won_17 : decode cX6_won 17 = .ok (.iload_n 1, 1) := by decide +kernel
theorem dX6_won_18 : decode cX6_won 18 = .ok (.iaload, 1) := by decide +kernel
theorem dX6_won_19 : decode cX6_won 19 = .ok (.aload_n 0, 1) := by decide +kernel
theorem dX6_won_20 : decode cX6_won 20 = .ok (.getfield 27, 3) := by decide +kernel
theorem dX6_won_23 : decode cX6_won 23 = .ok (.getfield 110, 3) := by decide +kernel
theorem dX6_won_26 : decode cX6_won 26 = .ok (.isub, 1) := by decide +kernel
theorem dX6_won_27 : decode cX6_won 27 = .ok (.invokestatic 104, 3) := by decide +kernel
theorem dX6_won_30 : decode cX6_won 30 = .ok (.istore_n 2, 1) := by decide +kernel
theorem dX6_won_31 : decode cX6_won 31 = .ok (.iconst 0, 1) := by decide +kernel
theorem dX6_won_32 : decode cX6_won 32 = .ok (.istore_n 3, 1) := by decide +kernel
theorem dX6_won_33 : decode cX6_won 33 = .ok (.iconst 0, 1) := by decide +kernel
theorem dX6_won_34 : decode cX6_won 34 = .ok (.istore 4, 2) := by decide +kernel
theorem dX6_won_36 : decode cX6_won 36 = .ok (.iload 4, 2) := by decide +kernel
theorem dX6_won_38 : decode cX6_won 38 = .ok (.aload_n 0, 1) := by decide +kernel
theorem dX6_won_39 : decode cX6_won 39 = .ok (.getfield 107, 3) := by decide +kernel
theorem dX6_won_42 : decode cX6_won 42 = .ok (.if_icmp .ge 51, 3) := by decide +kernel
theorem dX6_won_45 : decode cX6_won 45 = .ok (.aload_n 0, 1) := by decide +kernel
theorem dX6_won_46 : decode cX6_won 46 = .ok (.getfield 16, 3) := by decide +kernel
theorem dX6_won_49 : decode cX6_won 49 = .ok (.iload 4, 2) := by decide +kernel
theorem dX6_won_51 : decode cX6_won 51 = .ok (.iaload, 1) := by decide +kernel
theorem dX6_won_52 : decode cX6_won 52 = .ok (.aload_n 0, 1) := by decide +kernel
theorem dX6_won_53 : decode cX6_won 53 = .ok (.getfield 27, 3) := by decide +kernel
theorem dX6_won_56 : decode cX6_won 56 = .ok (.getfield 110, 3) := by decide +kernel
theorem dX6_won_59 : decode cX6_won 59 = .ok (.isub, 1) := by decide +kernel
theorem dX6_won_60 : decode cX6_won 60 = .ok (.invokestatic 104, 3) := by decide +kernel
theorem dX6_won_63 : decode cX6_won 63 = .ok (.istore 5, 2) := by decide +kernel
theorem dX6_won_65 : decode cX6_won 65 = .ok (.iload 5, 2) := by decide +kernel
theorem dX6_won_67 : decode cX6_won 67 = .ok (.iload_n 2, 1) := by decide +kernel
theorem dX6_won_68 : decode cX6_won 68 = .ok (.if_icmp .ge 5, 3) := by decide +kernel
theorem dX6_won_71 : decode cX6_won 71 = .ok (.iconst 0, 1) := by decide +kernel
theorem dX6_won_72 : decode cX6_won 72 = .ok (.ireturn, 1) := by decide +kernel
theorem dX6_won_73 : decode cX6_won 73 = .ok (.iload_n 3, 1) := by decide +kernel
theorem dX6_won_74 : decode cX6_won 74 = .ok (.iload 5, 2) := by decide +kernel
theorem dX6_won_76 : decode cX6_won 76 = .ok (.iload_n 2, 1) := by decide +kernel
theorem dX6_won_77 : decode cX6_won 77 = .ok (.if_icmp .ne 7, 3) := by decide +kernel
theorem dX6_won_80 : decode cX6_won 80 = .ok (.iconst 1, 1) := by decide +kernel
theorem dX6_won_81 : decode cX6_won 81 = .ok (.goto 4, 3) := by decide +kernel
theorem dX6_won_84 : decode cX6_won 84 = .ok (.iconst 0, 1) := by decide +kernel
theorem dX6_won_85 : decode cX6_won 85 = .ok (.iadd, 1) := by decide +kernel
theorem dX6_won_86 : decode cX6_won 86 = .ok (.istore_n 3, 1) := by decide +kernel
theorem dX6_won_87 : decode cX6_won 87 = .ok (.iinc 4 1, 3) := by decide +kernel
theorem dX6_won_90 : decode cX6_won 90 = .ok (.goto (-54), 3) := by decide +kernel
theorem dX6_won_93 : decode cX6_won 93 = .ok (.aload_n 0, 1) := by decide +kernel
theorem dX6_won_94 : decode cX6_won 94 = .ok (.invokevirtual 113, 3) := by decide +kernel
theorem dX6_won_97 : decode cX6_won 97 = .ok (.iload_n 3, 1) := by decide +kernel
theorem dX6_won_98 : decode cX6_won 98 = .ok (.idiv, 1) := by decide +kernel
theorem dX6_won_99 : decode cX6_won 99 = .ok (.ireturn, 1) := by decide +kernel
set_option maxRecDepth 20000 in
theorem ggX6_wins_X6_isIn : GoodIn wsX6_wins wsX6_isIn := goodIn_r _ [6] (by decide +kernel) (by decide +kernel)
set_option maxRecDepth 20000 in
theorem gX6_wins_X6_isIn : GoodIn wsX6_wins (va_wsS RX6 47 yX6_isIn wsX6_isIn) := goodIn_app (goodIn_of _ (by decide +kernel)) ggX6_wins_X6_isIn
set_option maxRecDepth 20000 in
theorem ggX6_wins_X6_won : GoodIn wsX6_wins wsX6_won := goodIn_r _ [10, 11, 12, 13, 14, 15, 16, 2, 17, 18, 19, 5, 20, 21, 26, 27, 28, 29, 30, 31, 32, 33, 34, 35, 36, 37, 38, 39, 40, 41] (by decide +kernel) (by decide +kernel)
set_option maxRecDepth 20000 in
theorem gX6_wins_X6_won : GoodIn wsX6_wins (wsV RX6 116 RX6 yX6_won wsX6_won) := goodIn_app (goodIn_of _ (by decide +kernel)) ggX6_wins_X6_won
set_option maxRecDepth 20000 in
theorem ggX6_wins_X6_no : GoodIn wsX6_wins wsX6_no := goodIn_r _ [25, 1, 26, 27, 28, 29, 30, 31, 32, 33] (by decide +kernel) (by decide +kernel)
set_option maxRecDepth 20000 in
theorem gX6_wins_X6_no : GoodIn wsX6_wins (wsV RX6 54 RX6 yX6_no wsX6_no) := goodIn_app (goodIn_of _ (by decide +kernel)) ggX6_wins_X6_no
theorem dX6_wins_0 : decode cX6_wins 0 = .ok (.aload_n 0, 1) := by decide +kernel
theorem dX6_wins_1 : decode cX6_wins 1 = .ok (.iconst 0, 1) := by decide +kernel
theorem dX6_wins_2 : decode cX6_wins 2 = .ok (.putfield 43, 3) := by decide +kernel
theorem dX6_wins_5 : decode cX6_wins 5 = .ok (.iload_n 1, 1) := by decide +kernel
theorem dX6_wins_6 : decode cX6_wins 6 = .ok (.iconst 0, 1) := by decide +kernel
theorem dX6_wins_7 : decode cX6_wins 7 = .ok (.aload_n 0, 1) := by decide +kernel
theorem dX6_wins_8 : decode cX6_wins 8 = .ok (.getfield 107, 3) := by decide +kernel
theorem dX6_wins_11 : decode cX6_wins 11 = .ok (.iconst 1, 1) := by decide +kernel
theorem dX6_wins_12 : decode cX6_wins 12 = .ok (.isub, 1) := by decide +kernel
theorem dX6_wins_13 : decode cX6_wins 13 = .ok (.invokestatic 47, 3) := by decide +kernel
theorem dX6_wins_16 : decode cX6_wins 16 = .ok (.ifCond .eq 11, 3) := by decide +kernel
theorem dX6_wins_19 : decode cX6_wins 19 = .ok (.aload_n 0, 1) := by decide +kernel
theorem dX6_wins_20 : decode cX6_wins 20 = .ok (.iload_n 1, 1) := by decide +kernel
theorem dX6_wins_21 : decode cX6_wins 21 = .ok (.invokevirtual 116, 3) := by decide +kernel
theorem dX6_wins_24 : decode cX6_wins 24 = .ok (.goto 8, 3) := by decide +kernel
theorem dX6_wins_27 : decode cX6_wins 27 = .ok (.aload_n 0, 1) := by decide +kernel
theorem dX6_wins_28 : decode cX6_wins 28 = .ok (.iconst 1, 1) := by decide +kernel
theorem dX6_wins_29 : decode cX6_wins 29 = .ok (.invokevirtual 54, 3) := by decide +kernel
theorem dX6_wins_32 : decode cX6_wins 32 = .ok (.ireturn, 1) := by decide +kernel
set_option maxRecDepth 20000 in
theorem ggX6_pass_X6_isIn : GoodIn wsX6_pass wsX6_isIn := goodIn_r _ [6] (by decide +kernel) (by decide +kernel)
set_option maxRecDepth 20000 in
theorem gX6_pass_X6_isIn : GoodIn wsX6_pass (va_wsS RX6 47 yX6_isIn wsX6_isIn) := goodIn_app (goodIn_of _ (by decide +kernel)) ggX6_pass_X6_isIn
set_option maxRecDepth 20000 in
theorem ggX6_pass_X6_no : GoodIn wsX6_pass wsX6_no := goodIn_r _ [10, 1, 63, 64, 65, 66, 67, 68, 69, 70] (by decide +kernel) (by decide +kernel)
set_option maxRecDepth 20000 in
theorem gX6_pass_X6_no : GoodIn wsX6_pass (wsV RX6 54 RX6 yX6_no wsX6_no) := goodIn_app (goodIn_of _ (by decide +kernel)) ggX6_pass_X6_no
set_option maxRecDepth 20000 in
theorem ggX6_pass_X5_pass : GoodIn wsX6_pass wsX5_pass := goodIn_r _ [15, 16, 17, 18, 19, 20, 21, 22, 23, 24, 25, 14, 26, 27, 28, 29, 30, 31, 32, 33, 34, 35, 36, 37, 38, 39, 40, 41, 42, 43, 44, 45, 46, 47, 48, 49, 50, 51, 52, 53, 54, 55, 56, 57, 58, 59, 60, 61, 62, 71, 72, 73, 74, 75, 76, 77, 78, 63, 64, 65, 66, 67, 68, 69, 70] (by decide +kernel) (by decide +kernel)
set_option maxRecDepth 20000 in
theorem gX6_pass_X5_pass : GoodIn wsX6_pass (wsV RX6 122 RX5 yX5_pass wsX5_pass) := goodIn_app (goodIn_of _ (by decide +kernel)) ggX6_pass_X5_pass
theorem dX6_pass_0 : decode cX6_pass 0 = .ok (.aload_n 0, 1) := by decide +kernel
theorem dX6_pass_1 : decode cX6_pass 1 = .ok (.iconst 0, 1) := by decide +kernel
theorem dX6_pass_2 : decode cX6_pass 2 = .ok (.putfield 43, 3) := by decide +kernel
theorem dX6_pass_5 : decode cX6_pass 5 = .ok (.iload_n 1, 1) := by decide +kernel
theorem dX6_pass_6 : decode cX6_pass 6 = .ok (.iconst 1, 1) := by decide +kernel
theorem dX6_pass_7 : decode cX6_pass 7 = .ok (.sipush 200, 3) := by decide +kernel
theorem dX6_pass_10 : decode cX6_pass 10 = .ok (.invokestatic 47, 3) := by decide +kernel
theorem dX6_pass_13 : decode cX6_pass 13 = .ok (.ifCond .ne 9, 3) := by decide +kernel
theorem dX6_pass_16 : decode cX6_pass 16 = .ok (.aload_n 0, 1) := by decide +kernel
theorem dX6_pass_17 : decode cX6_pass 17 = .ok (.iconst 1, 1) := by decide +kernel
theorem dX6_pass_18 : decode cX6_pass 18 = .ok (.invokevirtual 54, 3) := by decide +kernel
theorem dX6_pass_21 : decode cX6_pass 21 = .ok (.ireturn, 1) := by decide +kernel
theorem dX6_pass_22 : decode cX6_pass 22 = .ok (.aload_n 0, 1) := by decide +kernel
theorem dX6_pass_23 : decode cX6_pass 23 = .ok (.getfield 27, 3) := by decide +kernel
theorem dX6_pass_26 : decode cX6_pass 26 = .ok (.getfield 119, 3) := by decide +kernel
theorem dX6_pass_29 : decode cX6_pass 29 = .ok (.istore_n 2, 1) := by decide +kernel
theorem dX6_pass_30 : decode cX6_pass 30 = .ok (.iconst 0, 1) := by decide +kernel
theorem dX6_pass_31 : decode cX6_pass 31 = .ok (.istore_n 3, 1) := by decide +kernel
theorem dX6_pass_32 : decode cX6_pass 32 = .ok (.iload_n 3, 1) := by decide +kernel
theorem dX6_pass_33 : decode cX6_pass 33 = .ok (.iload_n 1, 1) := by decide +kernel
theorem dX6_pass_34 : decode cX6_pass 34 = .ok (.if_icmp .ge 16, 3) := by decide +kernel
theorem dX6_pass_37 : decode cX6_pass 37 = .ok (.aload_n 0, 1) := by decide +kernel
theorem dX6_pass_38 : decode cX6_pass 38 = .ok (.getfield 27, 3) := by decide +kernel
theorem dX6_pass_41 : decode cX6_pass 41 = .ok (.invokevirtual 122, 3) := by decide +kernel
theorem dX6_pass_44 : decode cX6_pass 44 = .ok (.iinc 3 1, 3) := by decide +kernel
theorem dX6_pass_47 : decode cX6_pass 47 = .ok (.goto (-15), 3) := by decide +kernel
theorem dX6_pass_50 : decode cX6_pass 50 = .ok (.aload_n 0, 1) := by decide +kernel
theorem dX6_pass_51 : decode cX6_pass 51 = .ok (.getfield 27, 3) := by decide +kernel
theorem dX6_pass_54 : decode cX6_pass 54 = .ok (.getfield 119, 3) := by decide +kernel
theorem dX6_pass_57 : decode cX6_pass 57 = .ok (.iload_n 2, 1) := by decide +kernel
theorem dX6_pass_58 : decode cX6_pass 58 = .ok (.isub, 1) := by decide +kernel
theorem dX6_pass_59 : decode cX6_pass 59 = .ok (.ireturn, 1) := by decide +kernel
set_option maxRecDepth 20000 in
theorem ggX6_counted_X5_get : GoodIn wsX6_counted wsX5_get := goodIn_r _ [8, 9, 29, 30, 31, 32, 33, 34, 35, 36] (by decide +kernel) (by decide +kernel)
set_option maxRecDepth 20000 in
theorem gX6_counted_X5_get : GoodIn wsX6_counted (wsV RX6 75 RX5 yX5_get wsX5_get) := goodIn_app (goodIn_of _ (by decide +kernel)) ggX6_counted_X5_get
set_option maxRecDepth 20000 in
theorem ggX6_counted_X6_huts : GoodIn wsX6_counted wsX6_huts := goodIn_r _ [14, 15, 21, 22, 23, 24, 25, 26, 27, 28] (by decide +kernel) (by decide +kernel)
set_option maxRecDepth 20000 in
theorem gX6_counted_X6_huts : GoodIn wsX6_counted (wsV RX6 62 RX6 yX6_huts wsX6_huts) := goodIn_app (goodIn_of _ (by decide +kernel)) ggX6_counted_X6_huts
set_option maxRecDepth 20000 in
theorem ggX6_counted_X6_stakes : GoodIn wsX6_counted wsX6_stakes := goodIn_r _ [19, 3, 20, 21, 22, 23, 24, 25, 26, 27, 28] (by decide +kernel) (by decide +kernel)
set_option maxRecDepth 20000 in
theorem gX6_counted_X6_stakes : GoodIn wsX6_counted (wsV RX6 113 RX6 yX6_stakes wsX6_stakes) := goodIn_app (goodIn_of _ (by decide +kernel)) ggX6_counted_X6_stakes
theorem dX6_counted_0 : decode cX6_counted 0 = .ok (.iconst 4, 1) := by decide +kernel
theorem dX6_counted_1 : decode cX6_counted 1 = .ok (.newarray .int, 2) := by decide +kernel
theorem dX6_counted_3 : decode cX6_counted 3 = .ok (.astore_n 2, 1) := by decide +kernel
theorem dX6_counted_4 : decode cX6_counted 4 = .ok (.iconst 0, 1) := by decide +kernel
theorem dX6_counted_5 : decode cX6_counted 5 = .ok (.istore_n 3, 1) := by decide +kernel
theorem dX6_counted_6 : decode cX6_counted 6 = .ok (.iload_n 3, 1) := by decide +kernel

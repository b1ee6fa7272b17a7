theorem dX7_rest_48 : decode cX7_rest 48 = .ok (.iload_n 3, 1) := by decide +kernel
theorem dX7_rest_49 : decode cX7_rest 49 = .ok (.bipush (-9), 2) := by decide +kernel
theorem dX7_rest_51 : decode cX7_rest 51 = .ok (.if_icmp .eq 7, 3) := by decide +kernel
theorem dX7_rest_54 : decode cX7_rest 54 = .ok (.iload_n 2, 1) := by decide +kernel
theorem dX7_rest_55 : decode cX7_rest 55 = .ok (.ifCond .eq 7, 3) := by decide +kernel
theorem dX7_rest_58 : decode cX7_rest 58 = .ok (.iload_n 3, 1) := by decide +kernel
theorem dX7_rest_59 : decode cX7_rest 59 = .ok (.goto 7, 3) := by decide +kernel
theorem dX7_rest_62 : decode cX7_rest 62 = .ok (.aload_n 0, 1) := by decide +kernel
theorem dX7_rest_63 : decode cX7_rest 63 = .ok (.invokevirtual 161, 3) := by decide +kernel
theorem dX7_rest_66 : decode cX7_rest 66 = .ok (.ireturn, 1) := by decide +kernel
set_option maxRecDepth 20000 in
theorem ggX7_tooMany_X7_begin : GoodIn wsX7_tooMany wsX7_begin := goodIn_r _ [8, 2, 9, 10, 11, 12, 3, 13, 14, 15, 16, 17, 89, 90, 91, 92, 93, 94, 95, 96, 97, 98, 99, 100, 101, 102, 103, 104, 105, 106, 107, 108, 109, 110, 111, 112, 113, 114, 115, 116, 117, 118, 119, 120, 121, 122, 123, 124, 125, 126, 127, 128] (by decide +kernel) (by decide +kernel)
set_option maxRecDepth 20000 in
theorem gX7_tooMany_X7_begin : GoodIn wsX7_tooMany (wsV RX7 195 RX7 yX7_begin wsX7_begin) := goodIn_app (goodIn_of _ (by decide +kernel)) ggX7_tooMany_X7_begin
set_option maxRecDepth 20000 in
theorem ggX7_tooMany_X7_allBy : GoodIn wsX7_tooMany wsX7_allBy := goodIn_r _ [21, 2, 9, 89, 90, 91, 92, 93, 94, 95, 96, 97, 98, 99, 100, 101, 102, 103, 104, 105, 106, 107, 108, 109, 110, 111, 112, 113, 114, 115, 116, 117, 118, 119, 120, 121, 122, 123, 124, 125, 126, 127, 128] (by decide +kernel) (by decide +kernel)
set_option maxRecDepth 20000 in
theorem gX7_tooMany_X7_allBy : GoodIn wsX7_tooMany (wsV RX7 231 RX7 yX7_allBy wsX7_allBy) := goodIn_app (goodIn_of _ (by decide +kernel)) ggX7_tooMany_X7_allBy
set_option maxRecDepth 20000 in
theorem ggX7_tooMany_X7_goRest : GoodIn wsX7_tooMany wsX7_goRest := goodIn_r _ [25, 26, 27, 28, 7, 29, 3, 30, 9, 12, 31, 32, 33, 34, 17, 35, 36, 37, 38, 14, 39, 40, 41, 42, 43, 44, 45, 46, 47, 15, 48, 49, 50, 51, 52, 53, 54, 55, 56, 57, 58, 59, 60, 61, 62, 63, 64, 65, 66, 67, 68, 69, 70, 71, 72, 73, 74, 75, 76, 77, 78, 79, 80, 89, 90, 91, 92, 93, 94, 95, 96, 97, 98, 99, 100, 101, 102, 103, 104, 105, 106, 107, 108, 109, 110, 111, 112, 113, 114, 115, 116, 117, 118, 119, 120, 121, 122, 123, 124, 125, 126, 127, 128] (by decide +kernel) (by decide +kernel)
set_option maxRecDepth 20000 in
theorem gX7_tooMany_X7_goRest : GoodIn wsX7_tooMany (wsV RX7 234 RX7 yX7_goRest wsX7_goRest) := goodIn_app (goodIn_of _ (by decide +kernel)) ggX7_tooMany_X7_goRest
set_option maxRecDepth 20000 in
theorem ggX7_tooMany_X7_allHear : GoodIn wsX7_tooMany wsX7_allHear := goodIn_r _ [84, 3, 85, 86, 87, 7, 88, 60, 43, 44, 45, 46, 47, 15, 9, 48, 49, 50, 72, 73, 74, 75, 59, 61, 62, 63, 64, 35, 36, 37, 38, 14, 39, 40, 41, 42, 51, 52, 53, 54, 12, 65, 66, 67, 68, 69, 70, 71, 76, 77, 78, 79, 80, 89, 90, 91, 92, 93, 94, 95, 96, 97, 98, 99, 100, 101, 102, 103, 104, 105, 106, 107, 108, 109, 110, 111, 112, 113, 114, 115, 116, 117, 118, 119, 120, 121, 122, 123, 124, 125, 126, 127, 128] (by decide +kernel) (by decide +kernel)
set_option maxRecDepth 20000 in
theorem gX7_tooMany_X7_allHear : GoodIn wsX7_tooMany (wsV RX7 237 RX7 yX7_allHear wsX7_allHear) := goodIn_app (goodIn_of _ (by decide +kernel)) ggX7_tooMany_X7_allHear
theorem dX7_tooMany_0 : decode cX7_tooMany 0 = .ok (.aload_n 0, 1) := by decide +kernel
theorem dX7_tooMany_1 : decode cX7_tooMany 1 = .ok (.iconst 0, 1) := by decide +kernel
theorem dX7_tooMany_2 : decode cX7_tooMany 2 = .ok (.putfield 71, 3) := by decide +kernel
theorem dX7_tooMany_5 : decode cX7_tooMany 5 = .ok (.iconst 1, 1) := by decide +kernel
theorem dX7_tooMany_6 : decode cX7_tooMany 6 = .ok (.istore_n 1, 1) := by decide +kernel
theorem dX7_tooMany_7 : decode cX7_tooMany 7 = .ok (.iload_n 1, 1) := by decide +kernel
theorem dX7_tooMany_8 : decode cX7_tooMany 8 = .ok (.aload_n 0, 1) := by decide +kernel
theorem dX7_tooMany_9 : decode cX7_tooMany 9 = .ok (.getfield 75, 3) := by decide +kernel
theorem dX7_tooMany_12 : decode cX7_tooMany 12 = .ok (.if_icmp .gt 41, 3) := by decide +kernel
theorem dX7_tooMany_15 : decode cX7_tooMany 15 = .ok (.aload_n 0, 1) := by decide +kernel
theorem dX7_tooMany_16 : decode cX7_tooMany 16 = .ok (.invokevirtual 195, 3) := by decide +kernel
theorem dX7_tooMany_19 : decode cX7_tooMany 19 = .ok (.aload_n 0, 1) := by decide +kernel
theorem dX7_tooMany_20 : decode cX7_tooMany 20 = .ok (.iconst 1, 1) := by decide +kernel
theorem dX7_tooMany_21 : decode cX7_tooMany 21 = .ok (.invokevirtual 231, 3) := by decide +kernel
theorem dX7_tooMany_24 : decode cX7_tooMany 24 = .ok (.aload_n 0, 1) := by decide +kernel
theorem dX7_tooMany_25 : decode cX7_tooMany 25 = .ok (.iload_n 1, 1) := by decide +kernel
theorem dX7_tooMany_26 : decode cX7_tooMany 26 = .ok (.putfield 141, 3) := by decide +kernel
theorem dX7_tooMany_29 : decode cX7_tooMany 29 = .ok (.aload_n 0, 1) := by decide +kernel
theorem dX7_tooMany_30 : decode cX7_tooMany 30 = .ok (.invokevirtual 234, 3) := by decide +kernel
theorem dX7_tooMany_33 : decode cX7_tooMany 33 = .ok (.bipush (-9), 2) := by decide +kernel
theorem dX7_tooMany_35 : decode cX7_tooMany 35 = .ok (.if_icmp .eq 10, 3) := by decide +kernel
theorem dX7_tooMany_38 : decode cX7_tooMany 38 = .ok (.aload_n 0, 1) := by decide +kernel
theorem dX7_tooMany_39 : decode cX7_tooMany 39 = .ok (.invokevirtual 237, 3) := by decide +kernel
theorem dX7_tooMany_42 : decode cX7_tooMany 42 = .ok (.ifCond .ne 5, 3) := by decide +kernel
theorem dX7_tooMany_45 : decode cX7_tooMany 45 = .ok (.iload_n 1, 1) := by decide +kernel
theorem dX7_tooMany_46 : decode cX7_tooMany 46 = .ok (.ireturn, 1) := by decide +kernel
theorem dX7_tooMany_47 : decode cX7_tooMany 47 = .ok (.iinc 1 1, 3) := by decide +kernel
theorem dX7_tooMany_50 : decode cX7_tooMany 50 = .ok (.goto (-43), 3) := by decide +kernel
theorem dX7_tooMany_53 : decode cX7_tooMany 53 = .ok (.bipush (-9), 2) := by decide +kernel
theorem dX7_tooMany_55 : decode cX7_tooMany 55 = .ok (.ireturn, 1) := by decide +kernel
set_option maxRecDepth 20000 in
theorem ggX7_lasts_X7_begin : GoodIn wsX7_lasts wsX7_begin := goodIn_r _ [6, 7, 8, 9, 10, 11, 12, 13, 14, 15, 16, 17, 77, 78, 79, 80, 81, 82, 83, 84, 85, 86, 87, 88, 89, 90, 91, 92, 93, 94, 95, 96, 97, 98, 99, 100, 101, 102, 103, 104, 105, 106, 107, 108, 109, 110, 111, 112, 113, 114, 115, 116] (by decide +kernel) (by decide +kernel)
set_option maxRecDepth 20000 in
theorem gX7_lasts_X7_begin : GoodIn wsX7_lasts (wsV RX7 195 RX7 yX7_begin wsX7_begin) := goodIn_app (goodIn_of _ (by decide +kernel)) ggX7_lasts_X7_begin
set_option maxRecDepth 20000 in
theorem ggX7_lasts_X7_loudAll : GoodIn wsX7_lasts wsX7_loudAll := goodIn_r _ [21, 12, 22, 23, 24, 5, 25, 26, 15, 8, 27, 28, 29, 77, 78, 79, 80, 81, 82, 83, 84, 85, 86, 87, 88, 89, 90, 91, 92, 93, 94, 95, 96, 97, 98, 99, 100, 101, 102, 103, 104, 105, 106, 107, 108, 109, 110, 111, 112, 113, 114, 115, 116] (by decide +kernel) (by decide +kernel)
set_option maxRecDepth 20000 in
theorem gX7_lasts_X7_loudAll : GoodIn wsX7_lasts (wsV RX7 161 RX7 yX7_loudAll wsX7_loudAll) := goodIn_app (goodIn_of _ (by decide +kernel)) ggX7_lasts_X7_loudAll
set_option maxRecDepth 20000 in
theorem ggX7_lasts_X7_allBy : GoodIn wsX7_lasts wsX7_allBy := goodIn_r _ [33, 7, 8, 77, 78, 79, 80, 81, 82, 83, 84, 85, 86, 87, 88, 89, 90, 91, 92, 93, 94, 95, 96, 97, 98, 99, 100, 101, 102, 103, 104, 105, 106, 107, 108, 109, 110, 111, 112, 113, 114, 115, 116] (by decide +kernel) (by decide +kernel)
set_option maxRecDepth 20000 in
theorem gX7_lasts_X7_allBy : GoodIn wsX7_lasts (wsV RX7 231 RX7 yX7_allBy wsX7_allBy) := goodIn_app (goodIn_of _ (by decide +kernel)) ggX7_lasts_X7_allBy
set_option maxRecDepth 20000 in
theorem ggX7_lasts_X7_go : GoodIn wsX7_lasts wsX7_go := goodIn_r _ [37, 12, 38, 8, 11, 39, 40, 41, 5, 42, 17, 43, 44, 45, 46, 14, 18, 19, 20, 21, 22, 23, 24, 25, 26, 15, 27, 28, 29, 47, 48, 49, 50, 51, 52, 53, 54, 55, 56, 57, 58, 59, 60, 61, 62, 63, 64, 65, 66, 67, 68, 69, 70, 71, 72, 73, 74, 75, 76, 77, 78, 79, 80, 81, 82, 83, 84, 85, 86, 87, 88, 89, 90, 91, 92, 93, 94, 95, 96, 97, 98, 99, 100, 101, 102, 103, 104, 105, 106, 107, 108, 109, 110, 111, 112, 113, 114, 115, 116] (by decide +kernel) (by decide +kernel)
set_option maxRecDepth 20000 in
theorem gX7_lasts_X7_go : GoodIn wsX7_lasts (wsV RX7 213 RX7 yX7_go wsX7_go) := goodIn_app (goodIn_of _ (by decide +kernel)) ggX7_lasts_X7_go
theorem dX7_lasts_0 : decode cX7_lasts 0 = .ok (.aload_n 0, 1) := by decide +kernel
theorem dX7_lasts_1 : decode cX7_lasts 1 = .ok (.iconst 0, 1) := by decide +kernel
theorem dX7_lasts_2 : decode cX7_lasts 2 = .ok (.putfield 71, 3) := by decide +kernel
theorem dX7_lasts_5 : decode cX7_lasts 5 = .ok (.aload_n 0, 1) := by decide +kernel
theorem dX7_lasts_6 : decode cX7_lasts 6 = .ok (.invokevirtual 195, 3) := by decide +kernel
theorem dX7_lasts_9 : decode cX7_lasts 9 = .ok (.aload_n 0, 1) := by decide +kernel
theorem dX7_lasts_10 : decode cX7_lasts 10 = .ok (.invokevirtual 161, 3) := by decide +kernel
theorem dX7_lasts_13 : decode cX7_lasts 13 = .ok (.istore_n 1, 1) := by decide +kernel
theorem dX7_lasts_14 : decode cX7_lasts 14 = .ok (.aload_n 0, 1) := by decide +kernel
theorem dX7_lasts_15 : decode cX7_lasts 15 = .ok (.iconst 1, 1) := by decide +kernel
theorem dX7_lasts_16 : decode cX7_lasts 16 = .ok (.invokevirtual 231, 3) := by decide +kernel
theorem dX7_lasts_19 : decode cX7_lasts 19 = .ok (.iconst 0, 1) := by decide +kernel
theorem dX7_lasts_20 : decode cX7_lasts 20 = .ok (.istore_n 2, 1) := by decide +kernel
theorem dX7_lasts_21 : decode cX7_lasts 21 = .ok (.iload_n 2, 1) := by decide +kernel
theorem dX7_lasts_22 : decode cX7_lasts 22 = .ok (.bipush 40, 2) := by decide +kernel
theorem dX7_lasts_24 : decode cX7_lasts 24 = .ok (.if_icmp .gt 24, 3) := by decide +kernel
theorem dX7_lasts_27 : decode cX7_lasts 27 = .ok (.aload_n 0, 1) := by decide +kernel
theorem dX7_lasts_28 : decode cX7_lasts 28 = .ok (.invokevirtual 161, 3) := by decide +kernel
theorem dX7_lasts_31 : decode cX7_lasts 31 = .ok (.iload_n 1, 1) := by decide +kernel
theorem dX7_lasts_32 : decode cX7_lasts 32 = .ok (.if_icmp .lt 5, 3) := by decide +kernel
theorem dX7_lasts_35 : decode cX7_lasts 35 = .ok (.iload_n 2, 1) := by decide +kernel
theorem dX7_lasts_36 : decode cX7_lasts 36 = .ok (.ireturn, 1) := by decide +kernel
theorem dX7_lasts_37 : decode cX7_lasts 37 = .ok (.aload_n 0, 1) := by decide +kernel
theorem dX7_lasts_38 : decode cX7_lasts 38 = .ok (.invokevirtual 213, 3) := by decide +kernel
theorem dX7_lasts_41 : decode cX7_lasts 41 = .ok (.pop, 1) := by decide +kernel
theorem dX7_lasts_42 : decode cX7_lasts 42 = .ok (.iinc 2 1, 3) := by decide +kernel
theorem dX7_lasts_45 : decode cX7_lasts 45 = .ok (.goto (-24), 3) := by decide +kernel
theorem dX7_lasts_48 : decode cX7_lasts 48 = .ok (.bipush (-9), 2) := by decide +kernel
theorem dX7_lasts_50 : decode cX7_lasts 50 = .ok (.ireturn, 1) := by decide +kernel
set_option maxRecDepth 20000 in
theorem ggX7_findStuffs_X7_begin : GoodIn wsX7_findStuffs wsX7_begin := goodIn_r _ [10, 11, 12, 13, 14, 15, 16, 17, 3, 18, 19, 20, 88, 89, 90, 91, 92, 93, 94, 95, 96, 97, 98, 99, 100, 101, 102, 103, 104, 105, 106, 107, 108, 109, 110, 111, 112, 113, 114, 115, 116, 117, 118, 119, 120, 121, 122, 123, 124, 125, 126, 127] (by decide +kernel) (by decide +kernel)
set_option maxRecDepth 20000 in
theorem gX7_findStuffs_X7_begin : GoodIn wsX7_findStuffs (wsV RX7 195 RX7 yX7_begin wsX7_begin) := goodIn_app (goodIn_of _ (by decide +kernel)) ggX7_findStuffs_X7_begin
set_option maxRecDepth 20000 in
theorem ggX7_findStuffs_X7_has : GoodIn wsX7_findStuffs wsX7_has := goodIn_r _ [23] (by decide +kernel) (by decide +kernel)
set_option maxRecDepth 20000 in
theorem gX7_findStuffs_X7_has : GoodIn wsX7_findStuffs (va_wsS RX7 153 yX7_has wsX7_has) := goodIn_app (goodIn_of _ (by decide +kernel)) ggX7_findStuffs_X7_has
set_option maxRecDepth 20000 in
theorem ggX7_findStuffs_X7_goRest : GoodIn wsX7_findStuffs wsX7_goRest := goodIn_r _ [27, 28, 29, 30, 9, 31, 16, 32, 12, 15, 33, 34, 35, 36, 20, 37, 38, 39, 40, 3, 41, 42, 43, 44, 45, 46, 47, 48, 49, 18, 21, 22, 23, 50, 51, 52, 53, 54, 55, 56, 57, 58, 59, 60, 61, 62, 63, 64, 65, 66, 67, 68, 69, 70, 71, 72, 73, 74, 75, 76, 77, 78, 79, 88, 89, 90, 91, 92, 93, 94, 95, 96, 97, 98, 99, 100, 101, 102, 103, 104, 105, 106, 107, 108, 109, 110, 111, 112, 113, 114, 115, 116, 117, 118, 119, 120, 121, 122, 123, 124, 125, 126, 127] (by decide +kernel) (by decide +kernel)
set_option maxRecDepth 20000 in
theorem gX7_findStuffs_X7_goRest : GoodIn wsX7_findStuffs (wsV RX7 234 RX7 yX7_goRest wsX7_goRest) := goodIn_app (goodIn_of _ (by decide +kernel)) ggX7_findStuffs_X7_goRest
set_option maxRecDepth 20000 in
theorem ggX7_findStuffs_X7_allHear : GoodIn wsX7_findStuffs wsX7_allHear := goodIn_r _ [83, 16, 84, 85, 86, 9, 87, 59, 45, 46, 47, 48, 49, 18, 12, 21, 22, 23, 71, 72, 73, 74, 58, 60, 61, 62, 63, 37, 38, 39, 40, 3, 41, 42, 43, 44, 50, 51, 52, 53, 15, 64, 65, 66, 67, 68, 69, 70, 75, 76, 77, 78, 79, 88, 89, 90, 91, 92, 93, 94, 95, 96, 97, 98, 99, 100, 101, 102, 103, 104, 105, 106, 107, 108, 109, 110, 111, 112, 113, 114, 115, 116, 117, 118, 119, 120, 121, 122, 123, 124, 125, 126, 127] (by decide +kernel) (by decide +kernel)
set_option maxRecDepth 20000 in
theorem gX7_findStuffs_X7_allHear : GoodIn wsX7_findStuffs (wsV RX7 237 RX7 yX7_allHear wsX7_allHear) := goodIn_app (goodIn_of _ (by decide +kernel)) ggX7_findStuffs_X7_allHear
theorem dX7_findStuffs_0 : decode cX7_findStuffs 0 = .ok (.bipush (-9), 2) := by decide +kernel
theorem dX7_findStuffs_2 : decode cX7_findStuffs 2 = .ok (.istore_n 1, 1) := by decide +kernel
theorem dX7_findStuffs_3 : decode cX7_findStuffs 3 = .ok (.iconst 0, 1) := by decide +kernel
theorem dX7_findStuffs_4 : decode cX7_findStuffs 4 = .ok (.istore_n 2, 1) := by decide +kernel
theorem dX7_findStuffs_5 : decode cX7_findStuffs 5 = .ok (.iload_n 2, 1) := by decide +kernel
theorem dX7_findStuffs_6 : decode cX7_findStuffs 6 = .ok (.iconst 1, 1) := by decide +kernel
theorem dX7_findStuffs_7 : decode cX7_findStuffs 7 = .ok (.aload_n 0, 1) := by decide +kernel
theorem dX7_findStuffs_8 : decode cX7_findStuffs 8 = .ok (.getfield 122, 3) := by decide +kernel
theorem dX7_findStuffs_11 : decode cX7_findStuffs 11 = .ok (.ishl, 1) := by decide +kernel
theorem dX7_findStuffs_12 : decode cX7_findStuffs 12 = .ok (.if_icmp .ge 141, 3) := by decide +kernel
theorem dX7_findStuffs_15 : decode cX7_findStuffs 15 = .ok (.iconst 0, 1) := by decide +kernel
theorem dX7_findStuffs_16 : decode cX7_findStuffs 16 = .ok (.istore_n 3, 1) := by decide +kernel
theorem dX7_findStuffs_17 : decode cX7_findStuffs 17 = .ok (.aload_n 0, 1) := by decide +kernel
theorem dX7_findStuffs_18 : decode cX7_findStuffs 18 = .ok (.invokevirtual 195, 3) := by decide +kernel
theorem dX7_findStuffs_21 : decode cX7_findStuffs 21 = .ok (.iconst 0, 1) := by decide +kernel
theorem dX7_findStuffs_22 : decode cX7_findStuffs 22 = .ok (.istore 4, 2) := by decide +kernel
theorem dX7_findStuffs_24 : decode cX7_findStuffs 24 = .ok (.iload 4, 2) := by decide +kernel
theorem dX7_findStuffs_26 : decode cX7_findStuffs 26 = .ok (.aload_n 0, 1) := by decide +kernel
theorem dX7_findStuffs_27 : decode cX7_findStuffs 27 = .ok (.getfield 122, 3) := by decide +kernel
theorem dX7_findStuffs_30 : decode cX7_findStuffs 30 = .ok (.if_icmp .ge 61, 3) := by decide +kernel
theorem dX7_findStuffs_33 : decode cX7_findStuffs 33 = .ok (.iload_n 3, 1) := by decide +kernel
theorem dX7_findStuffs_34 : decode cX7_findStuffs 34 = .ok (.iload_n 2, 1) := by decide +kernel
theorem dX7_findStuffs_35 : decode cX7_findStuffs 35 = .ok (.iload 4, 2) := by decide +kernel
theorem dX7_findStuffs_37 : decode cX7_findStuffs 37 = .ok (.invokestatic 153, 3) := by decide +kernel
theorem dX7_findStuffs_40 : decode cX7_findStuffs 40 = .ok (.ifCond .eq 13, 3) := by decide +kernel
theorem dX7_findStuffs_43 : decode cX7_findStuffs 43 = .ok (.aload_n 0, 1) := by decide +kernel
theorem dX7_findStuffs_44 : decode cX7_findStuffs 44 = .ok (.getfield 28, 3) := by decide +kernel
theorem dX7_findStuffs_47 : decode cX7_findStuffs 47 = .ok (.iload 4, 2) := by decide +kernel
theorem dX7_findStuffs_49 : decode cX7_findStuffs 49 = .ok (.iaload, 1) := by decide +kernel
theorem dX7_findStuffs_50 : decode cX7_findStuffs 50 = .ok (.goto 4, 3) := by decide +kernel
theorem dX7_findStuffs_53 : decode cX7_findStuffs 53 = .ok (.iconst 0, 1) := by decide +kernel
theorem dX7_findStuffs_54 : decode cX7_findStuffs 54 = .ok (.iadd, 1) := by decide +kernel
theorem dX7_findStuffs_55 : decode cX7_findStuffs 55 = .ok (.istore_n 3, 1) := by decide +kernel
theorem dX7_findStuffs_56 : decode cX7_findStuffs 56 = .ok (.aload_n 0, 1) := by decide +kernel
theorem dX7_findStuffs_57 : decode cX7_findStuffs 57 = .ok (.dup, 1) := by decide +kernel
theorem dX7_findStuffs_58 : decode cX7_findStuffs 58 = .ok (.getfield 144, 3) := by decide +kernel
theorem dX7_findStuffs_61 : decode cX7_findStuffs 61 = .ok (.iload_n 2, 1) := by decide +kernel
theorem dX7_findStuffs_62 : decode cX7_findStuffs 62 = .ok (.iload 4, 2) := by decide +kernel
theorem dX7_findStuffs_64 : decode cX7_findStuffs 64 = .ok (.invokestatic 153, 3) := by decide +kernel
theorem dX7_findStuffs_67 : decode cX7_findStuffs 67 = .ok (.ifCond .eq 13, 3) := by decide +kernel
theorem dX7_findStuffs_70 : decode cX7_findStuffs 70 = .ok (.aload_n 0, 1) := by decide +kernel
theorem dX7_findStuffs_71 : decode cX7_findStuffs 71 = .ok (.getfield 31, 3) := by decide +kernel
theorem dX7_findStuffs_74 : decode cX7_findStuffs 74 = .ok (.iload 4, 2) := by decide +kernel
theorem dX7_findStuffs_76 : decode cX7_findStuffs 76 = .ok (.iaload, 1) := by decide +kernel
theorem dX7_findStuffs_77 : decode cX7_findStuffs 77 = .ok (.goto 4, 3) := by decide +kernel
theorem dX7_findStuffs_80 : decode cX7_findStuffs 80 = .ok (.iconst 0, 1) := by decide +kernel
theorem dX7_findStuffs_81 : decode cX7_findStuffs 81 = .ok (.iadd, 1) := by decide +kernel
theorem dX7_findStuffs_82 : decode cX7_findStuffs 82 = .ok (.putfield 144, 3) := by decide +kernel
theorem dX7_findStuffs_85 : decode cX7_findStuffs 85 = .ok (.iinc 4 1, 3) := by decide +kernel
theorem dX7_findStuffs_88 : decode cX7_findStuffs 88 = .ok (.goto (-64), 3) := by decide +kernel
theorem dX7_findStuffs_91 : decode cX7_findStuffs 91 = .ok (.aload_n 0, 1) := by decide +kernel
theorem dX7_findStuffs_92 : decode cX7_findStuffs 92 = .ok (.aload_n 0, 1) := by decide +kernel
theorem dX7_findStuffs_93 : decode cX7_findStuffs 93 = .ok (.getfield 144, 3) := by decide +kernel
theorem dX7_findStuffs_96 : decode cX7_findStuffs 96 = .ok (.bipush 9, 2) := by decide +kernel
theorem dX7_findStuffs_98 : decode cX7_findStuffs 98 = .ok (.if_icmp .le 8, 3) := by decide +kernel
theorem dX7_findStuffs_101 : decode cX7_findStuffs 101 = .ok (.bipush 9, 2) := by decide +kernel
theorem dX7_findStuffs_103 : decode cX7_findStuffs 103 = .ok (.goto 7, 3) := by decide +kernel
theorem dX7_findStuffs_106 : decode cX7_findStuffs 106 = .ok (.aload_n 0, 1) := by decide +kernel
theorem dX7_findStuffs_107 : decode cX7_findStuffs 107 = .ok (.getfield 144, 3) := by decide +kernel
theorem dX7_findStuffs_110 : decode cX7_findStuffs 110 = .ok (.putfield 144, 3) := by decide +kernel
theorem dX7_findStuffs_113 : decode cX7_findStuffs 113 = .ok (.iload_n 1, 1) := by decide +kernel
theorem dX7_findStuffs_114 : decode cX7_findStuffs 114 = .ok (.bipush (-9), 2) := by decide +kernel
theorem dX7_findStuffs_116 : decode cX7_findStuffs 116 = .ok (.if_icmp .eq 8, 3) := by decide +kernel
theorem dX7_findStuffs_119 : decode cX7_findStuffs 119 = .ok (.iload_n 3, 1) := by decide +kernel
theorem dX7_findStuffs_120 : decode cX7_findStuffs 120 = .ok (.iload_n 1, 1) := by decide +kernel
theorem dX7_findStuffs_121 : decode cX7_findStuffs 121 = .ok (.if_icmp .ge 26, 3) := by decide +kernel
theorem dX7_findStuffs_124 : decode cX7_findStuffs 124 = .ok (.aload_n 0, 1) := by decide +kernel
theorem dX7_findStuffs_125 : decode cX7_findStuffs 125 = .ok (.invokevirtual 234, 3) := by decide +kernel
theorem dX7_findStuffs_128 : decode cX7_findStuffs 128 = .ok (.bipush (-9), 2) := by decide +kernel
theorem dX7_findStuffs_130 : decode cX7_findStuffs 130 = .ok (.if_icmp .eq 17, 3) := by decide +kernel
theorem dX7_findStuffs_133 : decode cX7_findStuffs 133 = .ok (.aload_n 0, 1) := by decide +kernel
theorem dX7_findStuffs_134 : decode cX7_findStuffs 134 = .ok (.invokevirtual 237, 3) := by decide +kernel
theorem dX7_findStuffs_137 : decode cX7_findStuffs 137 = .ok (.ifCond .eq 10, 3) := by decide +kernel
theorem dX7_findStuffs_140 : decode cX7_findStuffs 140 = .ok (.iload_n 3, 1) := by decide +kernel
theorem dX7_findStuffs_141 : decode cX7_findStuffs 141 = .ok (.istore_n 1, 1) := by decide +kernel
theorem dX7_findStuffs_142 : decode cX7_findStuffs 142 = .ok (.aload_n 0, 1) := by decide +kernel
theorem dX7_findStuffs_143 : decode cX7_findStuffs 143 = .ok (.iload_n 2, 1) := by decide +kernel
theorem dX7_findStuffs_144 : decode cX7_findStuffs 144 = .ok (.putfield 240, 3) := by decide +kernel
theorem dX7_findStuffs_147 : decode cX7_findStuffs 147 = .ok (.iinc 2 1, 3) := by decide +kernel
theorem dX7_findStuffs_150 : decode cX7_findStuffs 150 = .ok (.goto (-145), 3) := by decide +kernel
theorem dX7_findStuffs_153 : decode cX7_findStuffs 153 = .ok (.iload_n 1, 1) := by decide +kernel
theorem dX7_findStuffs_154 : decode cX7_findStuffs 154 = .ok (.ireturn, 1) := by decide +kernel
set_option maxRecDepth 20000 in
theorem ggX7_stuffs_X7_findStuffs : GoodIn wsX7_stuffs wsX7_findStuffs := goodIn_r _ [7, 8, 9, 10, 11, 2, 12, 13, 14, 6, 15, 16, 17, 18, 19, 20, 21, 22, 23, 24, 25, 26, 27, 28, 29, 30, 31, 32, 33, 34, 35, 36, 37, 38, 39, 40, 41, 42, 43, 44, 45, 46, 47, 48, 49, 50, 51, 52, 53, 54, 55, 56, 57, 58, 59, 60, 61, 62, 63, 64, 65, 66, 67, 68, 69, 70, 71, 72, 73, 74, 75, 76, 77, 78, 79, 80, 81, 82, 83, 84, 85, 86, 87, 88, 89, 90, 91, 92, 93, 94, 95, 96, 97, 98, 99, 100, 101, 102, 103, 104, 105, 106, 107, 108, 109, 110, 111, 112, 113, 114, 115, 116, 117, 118, 119, 120, 121, 122, 123, 124, 125, 126, 127, 128, 129, 130, 131, 132] (by decide +kernel) (by decide +kernel)
set_option maxRecDepth 20000 in
theorem gX7_stuffs_X7_findStuffs : GoodIn wsX7_stuffs (wsV RX7 243 RX7 yX7_findStuffs wsX7_findStuffs) := goodIn_app (goodIn_of _ (by decide +kernel)) ggX7_stuffs_X7_findStuffs
theorem dX7_stuffs_0 : decode cX7_stuffs 0 = .ok (.aload_n 0, 1) := by decide +kernel
theorem dX7_stuffs_1 : decode cX7_stuffs 1 = .ok (.iconst 0, 1) := by decide +kernel
theorem dX7_stuffs_2 : decode cX7_stuffs 2 = .ok (.putfield 71, 3) := by decide +kernel
theorem dX7_stuffs_5 : decode cX7_stuffs 5 = .ok (.aload_n 0, 1) := by decide +kernel
theorem dX7_stuffs_6 : decode cX7_stuffs 6 = .ok (.invokevirtual 243, 3) := by decide +kernel
theorem dX7_stuffs_9 : decode cX7_stuffs 9 = .ok (.istore_n 2, 1) := by decide +kernel
theorem dX7_stuffs_10 : decode cX7_stuffs 10 = .ok (.iload_n 2, 1) := by decide +kernel
theorem dX7_stuffs_11 : decode cX7_stuffs 11 = .ok (.bipush (-9), 2) := by decide +kernel
theorem dX7_stuffs_13 : decode cX7_stuffs 13 = .ok (.if_icmp .eq 7, 3) := by decide +kernel
theorem dX7_stuffs_16 : decode cX7_stuffs 16 = .ok (.iload_n 1, 1) := by decide +kernel
theorem dX7_stuffs_17 : decode cX7_stuffs 17 = .ok (.ifCond .ne 7, 3) := by decide +kernel
theorem dX7_stuffs_20 : decode cX7_stuffs 20 = .ok (.iload_n 2, 1) := by decide +kernel
theorem dX7_stuffs_21 : decode cX7_stuffs 21 = .ok (.goto 7, 3) := by decide +kernel
theorem dX7_stuffs_24 : decode cX7_stuffs 24 = .ok (.aload_n 0, 1) := by decide +kernel
theorem dX7_stuffs_25 : decode cX7_stuffs 25 = .ok (.getfield 240, 3) := by decide +kernel
theorem dX7_stuffs_28 : decode cX7_stuffs 28 = .ok (.ireturn, 1) := by decide +kernel
set_option maxRecDepth 20000 in
theorem ggX7_loudest_X7_begin : GoodIn wsX7_loudest wsX7_begin := goodIn_r _ [8, 9, 10, 11, 12, 2, 13, 14, 15, 16, 17, 3, 85, 86, 87, 88, 89, 90, 91, 92, 93, 94, 95, 96, 97, 98, 99, 100, 101, 102, 103, 104, 105, 106, 107, 108, 109, 110, 111, 112, 113, 114, 115, 116, 117, 118, 119, 120, 121, 122, 123, 124] (by decide +kernel) (by decide +kernel)
set_option maxRecDepth 20000 in
theorem gX7_loudest_X7_begin : GoodIn wsX7_loudest (wsV RX7 195 RX7 yX7_begin wsX7_begin) := goodIn_app (goodIn_of _ (by decide +kernel)) ggX7_loudest_X7_begin
set_option maxRecDepth 20000 in
theorem ggX7_loudest_X7_goRest : GoodIn wsX7_loudest wsX7_goRest := goodIn_r _ [21, 22, 23, 24, 7, 25, 13, 26, 10, 2, 27, 28, 29, 30, 3, 31, 32, 33, 34, 15, 35, 36, 37, 38, 39, 40, 41, 42, 43, 16, 44, 45, 46, 47, 48, 49, 50, 51, 52, 53, 54, 55, 56, 57, 58, 59, 60, 61, 62, 63, 64, 65, 66, 67, 68, 69, 70, 71, 72, 73, 74, 75, 76, 85, 86, 87, 88, 89, 90, 91, 92, 93, 94, 95, 96, 97, 98, 99, 100, 101, 102, 103, 104, 105, 106, 107, 108, 109, 110, 111, 112, 113, 114, 115, 116, 117, 118, 119, 120, 121, 122, 123, 124] (by decide +kernel) (by decide +kernel)
set_option maxRecDepth 20000 in
theorem gX7_loudest_X7_goRest : GoodIn wsX7_loudest (wsV RX7 234 RX7 yX7_goRest wsX7_goRest) := goodIn_app (goodIn_of _ (by decide +kernel)) ggX7_loudest_X7_goRest
set_option maxRecDepth 20000 in
theorem ggX7_loudest_X7_allHear : GoodIn wsX7_loudest wsX7_allHear := goodIn_r _ [80, 13, 81, 82, 83, 7, 84, 56, 39, 40, 41, 42, 43, 16, 10, 44, 45, 46, 68, 69, 70, 71, 55, 57, 58, 59, 60, 31, 32, 33, 34, 15, 35, 36, 37, 38, 47, 48, 49, 50, 2, 61, 62, 63, 64, 65, 66, 67, 72, 73, 74, 75, 76, 85, 86, 87, 88, 89, 90, 91, 92, 93, 94, 95, 96, 97, 98, 99, 100, 101, 102, 103, 104, 105, 106, 107, 108, 109, 110, 111, 112, 113, 114, 115, 116, 117, 118, 119, 120, 121, 122, 123, 124] (by decide +kernel) (by decide +kernel)
set_option maxRecDepth 20000 in
theorem gX7_loudest_X7_allHear : GoodIn wsX7_loudest (wsV RX7 237 RX7 yX7_allHear wsX7_allHear) := goodIn_app (goodIn_of _ (by decide +kernel)) ggX7_loudest_X7_allHear
theorem dX7_loudest_0 : decode cX7_loudest 0 = .ok (.aload_n 0, 1) := by decide +kernel
theorem dX7_loudest_1 : decode cX7_loudest 1 = .ok (.iconst 0, 1) := by decide +kernel
theorem dX7_loudest_2 : decode cX7_loudest 2 = .ok (.putfield 71, 3) := by decide +kernel
theorem dX7_loudest_5 : decode cX7_loudest 5 = .ok (.bipush 9, 2) := by decide +kernel
theorem dX7_loudest_7 : decode cX7_loudest 7 = .ok (.istore_n 1, 1) := by decide +kernel
theorem dX7_loudest_8 : decode cX7_loudest 8 = .ok (.iload_n 1, 1) := by decide +kernel
theorem dX7_loudest_9 : decode cX7_loudest 9 = .ok (.ifCond .lt 41, 3) := by decide +kernel
theorem dX7_loudest_12 : decode cX7_loudest 12 = .ok (.aload_n 0, 1) := by decide +kernel
theorem dX7_loudest_13 : decode cX7_loudest 13 = .ok (.invokevirtual 195, 3) := by decide +kernel
theorem dX7_loudest_16 : decode cX7_loudest 16 = .ok (.aload_n 0, 1) := by decide +kernel
theorem dX7_loudest_17 : decode cX7_loudest 17 = .ok (.iload_n 1, 1) := by decide +kernel
theorem dX7_loudest_18 : decode cX7_loudest 18 = .ok (.putfield 138, 3) := by decide +kernel
theorem dX7_loudest_21 : decode cX7_loudest 21 = .ok (.aload_n 0, 1) := by decide +kernel
theorem dX7_loudest_22 : decode cX7_loudest 22 = .ok (.iconst 0, 1) := by decide +kernel
theorem dX7_loudest_23 : decode cX7_loudest 23 = .ok (.putfield 150, 3) := by decide +kernel
theorem dX7_loudest_26 : decode cX7_loudest 26 = .ok (.aload_n 0, 1) := by decide +kernel
theorem dX7_loudest_27 : decode cX7_loudest 27 = .ok (.invokevirtual 234, 3) := by decide +kernel
theorem dX7_loudest_30 : decode cX7_loudest 30 = .ok (.bipush (-9), 2) := by decide +kernel
theorem dX7_loudest_32 : decode cX7_loudest 32 = .ok (.if_icmp .eq 12, 3) := by decide +kernel
theorem dX7_loudest_35 : decode cX7_loudest 35 = .ok (.aload_n 0, 1) := by decide +kernel
theorem dX7_loudest_36 : decode cX7_loudest 36 = .ok (.invokevirtual 237, 3) := by decide +kernel
theorem dX7_loudest_39 : decode cX7_loudest 39 = .ok (.ifCond .eq 5, 3) := by decide +kernel
theorem dX7_loudest_42 : decode cX7_loudest 42 = .ok (.iload_n 1, 1) := by decide +kernel
theorem dX7_loudest_43 : decode cX7_loudest 43 = .ok (.ireturn, 1) := by decide +kernel
theorem dX7_loudest_44 : decode cX7_loudest 44 = .ok (.iinc 1 (-1), 3) := by decide +kernel
theorem dX7_loudest_47 : decode cX7_loudest 47 = .ok (.goto (-39), 3) := by decide +kernel
theorem dX7_loudest_50 : decode cX7_loudest 50 = .ok (.bipush (-9), 2) := by decide +kernel
theorem dX7_loudest_52 : decode cX7_loudest 52 = .ok (.ireturn, 1) := by decide +kernel
set_option maxRecDepth 20000 in
theorem ggX7_softer_X7_begin : GoodIn wsX7_softer wsX7_begin := goodIn_r _ [6, 7, 8, 9, 10, 11, 12, 13, 14, 15, 16, 17, 72, 73, 74, 75, 76, 77, 78, 79, 80, 81, 82, 83, 84, 85, 86, 87, 88, 89, 90, 91, 92, 93, 94, 95, 96, 97, 98, 99, 100, 101, 102, 103, 104, 105, 106, 107, 108, 109, 110, 111] (by decide +kernel) (by decide +kernel)
set_option maxRecDepth 20000 in
theorem gX7_softer_X7_begin : GoodIn wsX7_softer (wsV RX7 195 RX7 yX7_begin wsX7_begin) := goodIn_app (goodIn_of _ (by decide +kernel)) ggX7_softer_X7_begin
set_option maxRecDepth 20000 in
theorem ggX7_softer_X7_allBy : GoodIn wsX7_softer wsX7_allBy := goodIn_r _ [21, 7, 8, 72, 73, 74, 75, 76, 77, 78, 79, 80, 81, 82, 83, 84, 85, 86, 87, 88, 89, 90, 91, 92, 93, 94, 95, 96, 97, 98, 99, 100, 101, 102, 103, 104, 105, 106, 107, 108, 109, 110, 111] (by decide +kernel) (by decide +kernel)
set_option maxRecDepth 20000 in
theorem gX7_softer_X7_allBy : GoodIn wsX7_softer (wsV RX7 231 RX7 yX7_allBy wsX7_allBy) := goodIn_app (goodIn_of _ (by decide +kernel)) ggX7_softer_X7_allBy
set_option maxRecDepth 20000 in
theorem ggX7_softer_X7_allHear : GoodIn wsX7_softer wsX7_allHear := goodIn_r _ [25, 12, 26, 27, 28, 5, 29, 30, 31, 32, 33, 34, 35, 15, 8, 36, 37, 38, 39, 40, 41, 42, 43, 44, 45, 46, 47, 48, 49, 50, 51, 14, 52, 53, 54, 55, 56, 57, 58, 59, 11, 60, 61, 62, 63, 64, 65, 66, 67, 68, 69, 70, 71, 72, 73, 74, 75, 76, 77, 78, 79, 80, 81, 82, 83, 84, 85, 86, 87, 88, 89, 90, 91, 92, 93, 94, 95, 96, 97, 98, 99, 100, 101, 102, 103, 104, 105, 106, 107, 108, 109, 110, 111] (by decide +kernel) (by decide +kernel)
set_option maxRecDepth 20000 in
theorem gX7_softer_X7_allHear : GoodIn wsX7_softer (wsV RX7 237 RX7 yX7_allHear wsX7_allHear) := goodIn_app (goodIn_of _ (by decide +kernel)) ggX7_softer_X7_allHear
theorem dX7_softer_0 : decode cX7_softer 0 = .ok (.aload_n 0, 1) := by decide +kernel
theorem dX7_softer_1 : decode cX7_softer 1 = .ok (.iconst 0, 1) := by decide +kernel
theorem dX7_softer_2 : decode cX7_softer 2 = .ok (.putfield 71, 3) := by decide +kernel
theorem dX7_softer_5 : decode cX7_softer 5 = .ok (.aload_n 0, 1) := by decide +kernel
theorem dX7_softer_6 : decode cX7_softer 6 = .ok (.invokevirtual 195, 3) := by decide +kernel
theorem dX7_softer_9 : decode cX7_softer 9 = .ok (.iconst 1, 1) := by decide +kernel
theorem dX7_softer_10 : decode cX7_softer 10 = .ok (.istore_n 1, 1) := by decide +kernel
theorem dX7_softer_11 : decode cX7_softer 11 = .ok (.iload_n 1, 1) := by decide +kernel
theorem dX7_softer_12 : decode cX7_softer 12 = .ok (.bipush 10, 2) := by decide +kernel
theorem dX7_softer_14 : decode cX7_softer 14 = .ok (.if_icmp .ge 23, 3) := by decide +kernel
theorem dX7_softer_17 : decode cX7_softer 17 = .ok (.aload_n 0, 1) := by decide +kernel
theorem dX7_softer_18 : decode cX7_softer 18 = .ok (.iload_n 1, 1) := by decide +kernel
theorem dX7_softer_19 : decode cX7_softer 19 = .ok (.invokevirtual 231, 3) := by decide +kernel
theorem dX7_softer_22 : decode cX7_softer 22 = .ok (.aload_n 0, 1) := by decide +kernel
theorem dX7_softer_23 : decode cX7_softer 23 = .ok (.invokevirtual 237, 3) := by decide +kernel
theorem dX7_softer_26 : decode cX7_softer 26 = .ok (.ifCond .eq 5, 3) := by decide +kernel
theorem dX7_softer_29 : decode cX7_softer 29 = .ok (.iload_n 1, 1) := by decide +kernel
theorem dX7_softer_30 : decode cX7_softer 30 = .ok (.ireturn, 1) := by decide +kernel
theorem dX7_softer_31 : decode cX7_softer 31 = .ok (.iinc 1 1, 3) := by decide +kernel
theorem dX7_softer_34 : decode cX7_softer 34 = .ok (.goto (-23), 3) := by decide +kernel
theorem dX7_softer_37 : decode cX7_softer 37 = .ok (.bipush (-9), 2) := by decide +kernel
theorem dX7_softer_39 : decode cX7_softer 39 = .ok (.ireturn, 1) := by decide +kernel
set_option maxRecDepth 20000 in
theorem ggX7_overhears_X7_noRing : GoodIn wsX7_overhears wsX7_noRing := goodIn_r _ [8, 2, 9, 10, 7, 11, 57, 58, 59, 60, 61, 62, 63, 64, 65, 66, 67, 68, 69, 70, 71, 72, 73, 74, 75, 76, 77, 78, 79, 80, 81, 82, 83, 84, 85, 86, 87, 88, 89, 90, 91, 92, 93, 94, 95, 96] (by decide +kernel) (by decide +kernel)
set_option maxRecDepth 20000 in
theorem gX7_overhears_X7_noRing : GoodIn wsX7_overhears (wsV RX7 201 RX7 yX7_noRing wsX7_noRing) := goodIn_app (goodIn_of _ (by decide +kernel)) ggX7_overhears_X7_noRing
set_option maxRecDepth 20000 in
theorem ggX7_overhears_X7_begin : GoodIn wsX7_overhears wsX7_begin := goodIn_r _ [15, 2, 16, 17, 18, 19, 20, 21, 22, 23, 24, 25, 57, 58, 59, 60, 61, 62, 63, 64, 65, 66, 67, 68, 69, 70, 71, 72, 73, 74, 75, 76, 77, 78, 79, 80, 81, 82, 83, 84, 85, 86, 87, 88, 89, 90, 91, 92, 93, 94, 95, 96] (by decide +kernel) (by decide +kernel)
set_option maxRecDepth 20000 in
theorem gX7_overhears_X7_begin : GoodIn wsX7_overhears (wsV RX7 195 RX7 yX7_begin wsX7_begin) := goodIn_app (goodIn_of _ (by decide +kernel)) ggX7_overhears_X7_begin
set_option maxRecDepth 20000 in
theorem ggX7_overhears_X7_fromAt : GoodIn wsX7_overhears wsX7_fromAt := goodIn_r _ [29, 3, 30, 31, 32, 7, 33, 34, 23, 16, 35, 36, 37, 38, 39, 40, 57, 58, 59, 60, 61, 62, 63, 64, 65, 66, 67, 68, 69, 70, 71, 72, 73, 74, 75, 76, 77, 78, 79, 80, 81, 82, 83, 84, 85, 86, 87, 88, 89, 90, 91, 92, 93, 94, 95, 96] (by decide +kernel) (by decide +kernel)
set_option maxRecDepth 20000 in
theorem gX7_overhears_X7_fromAt : GoodIn wsX7_overhears (wsV RX7 173 RX7 yX7_fromAt wsX7_fromAt) := goodIn_app (goodIn_of _ (by decide +kernel)) ggX7_overhears_X7_fromAt
set_option maxRecDepth 20000 in
theorem ggX7_overhears_X7_noiseAt : GoodIn wsX7_overhears wsX7_noiseAt := goodIn_r _ [44, 20, 45, 46, 47, 7, 48, 22, 49, 50, 51, 52, 30, 31, 32, 33, 34, 23, 16, 35, 36, 37, 53, 54, 55, 56, 19, 26, 27, 28, 29, 3, 38, 39, 40, 57, 58, 59, 60, 61, 62, 63, 64, 65, 66, 67, 68, 69, 70, 71, 72, 73, 74, 75, 76, 77, 78, 79, 80, 81, 82, 83, 84, 85, 86, 87, 88, 89, 90, 91, 92, 93, 94, 95, 96] (by decide +kernel) (by decide +kernel)
set_option maxRecDepth 20000 in
theorem gX7_overhears_X7_noiseAt : GoodIn wsX7_overhears (wsV RX7 179 RX7 yX7_noiseAt wsX7_noiseAt) := goodIn_app (goodIn_of _ (by decide +kernel)) ggX7_overhears_X7_noiseAt
theorem dX7_overhears_0 : decode cX7_overhears 0 = .ok (.aload_n 0, 1) := by decide +kernel
theorem dX7_overhears_1 : decode cX7_overhears 1 = .ok (.iconst 0, 1) := by decide +kernel
theorem dX7_overhears_2 : decode cX7_overhears 2 = .ok (.putfield 71, 3) := by decide +kernel
theorem dX7_overhears_5 : decode cX7_overhears 5 = .ok (.aload_n 0, 1) := by decide +kernel
theorem dX7_overhears_6 : decode cX7_overhears 6 = .ok (.iload_n 1, 1) := by decide +kernel
theorem dX7_overhears_7 : decode cX7_overhears 7 = .ok (.invokevirtual 201, 3) := by decide +kernel
theorem dX7_overhears_10 : decode cX7_overhears 10 = .ok (.ifCond .eq 5, 3) := by decide +kernel
theorem dX7_overhears_13 : decode cX7_overhears 13 = .ok (.iconst (-1), 1) := by decide +kernel
theorem dX7_overhears_14 : decode cX7_overhears 14 = .ok (.ireturn, 1) := by decide +kernel
theorem dX7_overhears_15 : decode cX7_overhears 15 = .ok (.aload_n 0, 1) := by decide +kernel
theorem dX7_overhears_16 : decode cX7_overhears 16 = .ok (.invokevirtual 195, 3) := by decide +kernel
theorem dX7_overhears_19 : decode cX7_overhears 19 = .ok (.iconst 0, 1) := by decide +kernel
theorem dX7_overhears_20 : decode cX7_overhears 20 = .ok (.istore_n 2, 1) := by decide +kernel
theorem dX7_overhears_21 : decode cX7_overhears 21 = .ok (.iconst 0, 1) := by decide +kernel
theorem dX7_overhears_22 : decode cX7_overhears 22 = .ok (.istore_n 3, 1) := by decide +kernel
theorem dX7_overhears_23 : decode cX7_overhears 23 = .ok (.iload_n 3, 1) := by decide +kernel
theorem dX7_overhears_24 : decode cX7_overhears 24 = .ok (.aload_n 0, 1) := by decide +kernel
theorem dX7_overhears_25 : decode cX7_overhears 25 = .ok (.getfield 75, 3) := by decide +kernel
theorem dX7_overhears_28 : decode cX7_overhears 28 = .ok (.if_icmp .ge 55, 3) := by decide +kernel
theorem dX7_overhears_31 : decode cX7_overhears 31 = .ok (.aload_n 0, 1) := by decide +kernel
theorem dX7_overhears_32 : decode cX7_overhears 32 = .ok (.iload_n 3, 1) := by decide +kernel
theorem dX7_overhears_33 : decode cX7_overhears 33 = .ok (.aload_n 0, 1) := by decide +kernel
theorem dX7_overhears_34 : decode cX7_overhears 34 = .ok (.getfield 16, 3) := by decide +kernel
theorem dX7_overhears_37 : decode cX7_overhears 37 = .ok (.iload_n 1, 1) := by decide +kernel
theorem dX7_overhears_38 : decode cX7_overhears 38 = .ok (.iaload, 1) := by decide +kernel
theorem dX7_overhears_39 : decode cX7_overhears 39 = .ok (.invokevirtual 173, 3) := by decide +kernel
theorem dX7_overhears_42 : decode cX7_overhears 42 = .ok (.istore 4, 2) := by decide +kernel
theorem dX7_overhears_44 : decode cX7_overhears 44 = .ok (.iload_n 2, 1) := by decide +kernel
theorem dX7_overhears_45 : decode cX7_overhears 45 = .ok (.iload 4, 2) := by decide +kernel
theorem dX7_overhears_47 : decode cX7_overhears 47 = .ok (.ifCond .le 27, 3) := by decide +kernel
theorem dX7_overhears_50 : decode cX7_overhears 50 = .ok (.iload 4, 2) := by decide +kernel
theorem dX7_overhears_52 : decode cX7_overhears 52 = .ok (.aload_n 0, 1) := by decide +kernel
theorem dX7_overhears_53 : decode cX7_overhears 53 = .ok (.aload_n 0, 1) := by decide +kernel
theorem dX7_overhears_54 : decode cX7_overhears 54 = .ok (.getfield 16, 3) := by decide +kernel
theorem dX7_overhears_57 : decode cX7_overhears 57 = .ok (.iload_n 1, 1) := by decide +kernel
theorem dX7_overhears_58 : decode cX7_overhears 58 = .ok (.iaload, 1) := by decide +kernel
theorem dX7_overhears_59 : decode cX7_overhears 59 = .ok (.invokevirtual 179, 3) := by decide +kernel
theorem dX7_overhears_62 : decode cX7_overhears 62 = .ok (.iload 4, 2) := by decide +kernel
theorem dX7_overhears_64 : decode cX7_overhears 64 = .ok (.isub, 1) := by decide +kernel
theorem dX7_overhears_65 : decode cX7_overhears 65 = .ok (.if_icmp .lt 9, 3) := by decide +kernel
theorem dX7_overhears_68 : decode cX7_overhears 68 = .ok (.iconst 1, 1) := by decide +kernel
theorem dX7_overhears_69 : decode cX7_overhears 69 = .ok (.iload_n 3, 1) := by decide +kernel
theorem dX7_overhears_70 : decode cX7_overhears 70 = .ok (.ishl, 1) := by decide +kernel
theorem dX7_overhears_71 : decode cX7_overhears 71 = .ok (.goto 4, 3) := by decide +kernel
theorem dX7_overhears_74 : decode cX7_overhears 74 = .ok (.iconst 0, 1) := by decide +kernel
theorem dX7_overhears_75 : decode cX7_overhears 75 = .ok (.ior, 1) := by decide +kernel
theorem dX7_overhears_76 : decode cX7_overhears 76 = .ok (.istore_n 2, 1) := by decide +kernel
theorem dX7_overhears_77 : decode cX7_overhears 77 = .ok (.iinc 3 1, 3) := by decide +kernel
theorem dX7_overhears_80 : decode cX7_overhears 80 = .ok (.goto (-57), 3) := by decide +kernel
theorem dX7_overhears_83 : decode cX7_overhears 83 = .ok (.iload_n 2, 1) := by decide +kernel
theorem dX7_overhears_84 : decode cX7_overhears 84 = .ok (.ireturn, 1) := by decide +kernel
set_option maxRecDepth 20000 in
theorem ggX7_quietest_X7_begin : GoodIn wsX7_quietest wsX7_begin := goodIn_r _ [7, 8, 9, 10, 11, 12, 13, 14, 15, 16, 17, 18, 55, 56, 57, 58, 59, 60, 61, 62, 63, 64, 65, 66, 67, 68, 69, 70, 71, 72, 73, 74, 75, 76, 77, 78, 79, 80, 81, 82, 83, 84, 85, 86, 87, 88, 89, 90, 91, 92, 93, 94] (by decide +kernel) (by decide +kernel)
set_option maxRecDepth 20000 in
theorem gX7_quietest_X7_begin : GoodIn wsX7_quietest (wsV RX7 195 RX7 yX7_begin wsX7_begin) := goodIn_app (goodIn_of _ (by decide +kernel)) ggX7_quietest_X7_begin
set_option maxRecDepth 20000 in
theorem ggX7_quietest_X7_isTaken : GoodIn wsX7_quietest wsX7_isTaken := goodIn_r _ [22, 8, 23, 55, 56, 57, 58, 59, 60, 61, 62, 63, 64, 65, 66, 67, 68, 69, 70, 71, 72, 73, 74, 75, 76, 77, 78, 79, 80, 81, 82, 83, 84, 85, 86, 87, 88, 89, 90, 91, 92, 93, 94] (by decide +kernel) (by decide +kernel)
set_option maxRecDepth 20000 in
theorem gX7_quietest_X7_isTaken : GoodIn wsX7_quietest (wsV RX7 216 RX7 yX7_isTaken wsX7_isTaken) := goodIn_app (goodIn_of _ (by decide +kernel)) ggX7_quietest_X7_isTaken
set_option maxRecDepth 20000 in
theorem ggX7_quietest_X7_noiseAt : GoodIn wsX7_quietest wsX7_noiseAt := goodIn_r _ [27, 13, 28, 29, 30, 6, 31, 15, 32, 33, 34, 35, 36, 37, 38, 39, 40, 16, 9, 41, 42, 43, 44, 45, 46, 47, 12, 48, 49, 50, 51, 23, 52, 53, 54, 55, 56, 57, 58, 59, 60, 61, 62, 63, 64, 65, 66, 67, 68, 69, 70, 71, 72, 73, 74, 75, 76, 77, 78, 79, 80, 81, 82, 83, 84, 85, 86, 87, 88, 89, 90, 91, 92, 93, 94] (by decide +kernel) (by decide +kernel)
set_option maxRecDepth 20000 in
theorem gX7_quietest_X7_noiseAt : GoodIn wsX7_quietest (wsV RX7 179 RX7 yX7_noiseAt wsX7_noiseAt) := goodIn_app (goodIn_of _ (by decide +kernel)) ggX7_quietest_X7_noiseAt
theorem dX7_quietest_0 : decode cX7_quietest 0 = .ok (.aload_n 0, 1) := by decide +kernel
theorem dX7_quietest_1 : decode cX7_quietest 1 = .ok (.iconst 0, 1) := by decide +kernel
theorem dX7_quietest_2 : decode cX7_quietest 2 = .ok (.putfield 71, 3) := by decide +kernel
theorem dX7_quietest_5 : decode cX7_quietest 5 = .ok (.aload_n 0, 1) := by decide +kernel
theorem dX7_quietest_6 : decode cX7_quietest 6 = .ok (.invokevirtual 195, 3) := by decide +kernel
theorem dX7_quietest_9 : decode cX7_quietest 9 = .ok (.bipush (-9), 2) := by decide +kernel
theorem dX7_quietest_11 : decode cX7_quietest 11 = .ok (.istore_n 1, 1) := by decide +kernel
theorem dX7_quietest_12 : decode cX7_quietest 12 = .ok (.ldc 246, 2) := by decide +kernel
theorem dX7_quietest_14 : decode cX7_quietest 14 = .ok (.istore_n 2, 1) := by decide +kernel
theorem dX7_quietest_15 : decode cX7_quietest 15 = .ok (.iconst 0, 1) := by decide +kernel
theorem dX7_quietest_16 : decode cX7_quietest 16 = .ok (.istore_n 3, 1) := by decide +kernel
theorem dX7_quietest_17 : decode cX7_quietest 17 = .ok (.iload_n 3, 1) := by decide +kernel
theorem dX7_quietest_18 : decode cX7_quietest 18 = .ok (.bipush 100, 2) := by decide +kernel
theorem dX7_quietest_20 : decode cX7_quietest 20 = .ok (.if_icmp .ge 34, 3) := by decide +kernel
theorem dX7_quietest_23 : decode cX7_quietest 23 = .ok (.aload_n 0, 1) := by decide +kernel
theorem dX7_quietest_24 : decode cX7_quietest 24 = .ok (.iload_n 3, 1) := by decide +kernel
theorem dX7_quietest_25 : decode cX7_quietest 25 = .ok (.invokevirtual 216, 3) := by decide +kernel
theorem dX7_quietest_28 : decode cX7_quietest 28 = .ok (.ifCond .ne 20, 3) := by decide +kernel
theorem dX7_quietest_31 : decode cX7_quietest 31 = .ok (.aload_n 0, 1) := by decide +kernel
theorem dX7_quietest_32 : decode cX7_quietest 32 = .ok (.iload_n 3, 1) := by decide +kernel
theorem dX7_quietest_33 : decode cX7_quietest 33 = .ok (.invokevirtual 179, 3) := by decide +kernel
theorem dX7_quietest_36 : decode cX7_quietest 36 = .ok (.iload_n 2, 1) := by decide +kernel
theorem dX7_quietest_37 : decode cX7_quietest 37 = .ok (.if_icmp .ge 11, 3) := by decide +kernel
theorem dX7_quietest_40 : decode cX7_quietest 40 = .ok (.aload_n 0, 1) := by decide +kernel
theorem dX7_quietest_41 : decode cX7_quietest 41 = .ok (.iload_n 3, 1) := by decide +kernel
theorem dX7_quietest_42 : decode cX7_quietest 42 = .ok (.invokevirtual 179, 3) := by decide +kernel
theorem dX7_quietest_45 : decode cX7_quietest 45 = .ok (.istore_n 2, 1) := by decide +kernel
theorem dX7_quietest_46 : decode cX7_quietest 46 = .ok (.iload_n 3, 1) := by decide +kernel
theorem dX7_quietest_47 : decode cX7_quietest 47 = .ok (.istore_n 1, 1) := by decide +kernel
theorem dX7_quietest_48 : decode cX7_quietest 48 = .ok (.iinc 3 1, 3) := by decide +kernel
theorem dX7_quietest_51 : decode cX7_quietest 51 = .ok (.goto (-34), 3) := by decide +kernel
theorem dX7_quietest_54 : decode cX7_quietest 54 = .ok (.iload_n 1, 1) := by decide +kernel
theorem dX7_quietest_55 : decode cX7_quietest 55 = .ok (.ireturn, 1) := by decide +kernel
set_option maxRecDepth 20000 in
theorem ggX7_apart_X7_far : GoodIn wsX7_apart wsX7_far := goodIn_r _ [7] (by decide +kernel) (by decide +kernel)
set_option maxRecDepth 20000 in
theorem gX7_apart_X7_far : GoodIn wsX7_apart (va_wsS RX7 167 yX7_far wsX7_far) := goodIn_app (goodIn_of _ (by decide +kernel)) ggX7_apart_X7_far
theorem dX7_apart_0 : decode cX7_apart 0 = .ok (.sipush 1000, 3) := by decide +kernel
theorem dX7_apart_3 : decode cX7_apart 3 = .ok (.istore_n 2, 1) := by decide +kernel
theorem dX7_apart_4 : decode cX7_apart 4 = .ok (.iconst 0, 1) := by decide +kernel
theorem dX7_apart_5 : decode cX7_apart 5 = .ok (.istore_n 3, 1) := by decide +kernel
theorem dX7_apart_6 : decode cX7_apart 6 = .ok (.iload_n 3, 1) := by decide +kernel
theorem dX7_apart_7 : decode cX7_apart 7 = .ok (.iload_n 1, 1) := by decide +kernel
theorem dX7_apart_8 : decode cX7_apart 8 = .ok (.if_icmp .ge 124, 3) := by decide +kernel
theorem dX7_apart_11 : decode cX7_apart 11 = .ok (.iconst 0, 1) := by decide +kernel
theorem dX7_apart_12 : decode cX7_apart 12 = .ok (.istore 4, 2) := by decide +kernel
theorem dX7_apart_14 : decode cX7_apart 14 = .ok (.iload 4, 2) := by decide +kernel
theorem dX7_apart_16 : decode cX7_apart 16 = .ok (.iload_n 3, 1) := by decide +kernel
theorem dX7_apart_17 : decode cX7_apart 17 = .ok (.if_icmp .ge 50, 3) := by decide +kernel
theorem dX7_apart_20 : decode cX7_apart 20 = .ok (.aload_n 0, 1) := by decide +kernel
theorem dX7_apart_21 : decode cX7_apart 21 = .ok (.getfield 65, 3) := by decide +kernel
theorem dX7_apart_24 : decode cX7_apart 24 = .ok (.iload_n 3, 1) := by decide +kernel
theorem dX7_apart_25 : decode cX7_apart 25 = .ok (.iaload, 1) := by decide +kernel
theorem dX7_apart_26 : decode cX7_apart 26 = .ok (.aload_n 0, 1) := by decide +kernel
theorem dX7_apart_27 : decode cX7_apart 27 = .ok (.getfield 65, 3) := by decide +kernel
theorem dX7_apart_30 : decode cX7_apart 30 = .ok (.iload 4, 2) := by decide +kernel
theorem dX7_apart_32 : decode cX7_apart 32 = .ok (.iaload, 1) := by decide +kernel
theorem dX7_apart_33 : decode cX7_apart 33 = .ok (.invokestatic 167, 3) := by decide +kernel
theorem dX7_apart_36 : decode cX7_apart 36 = .ok (.iload_n 2, 1) := by decide +kernel
theorem dX7_apart_37 : decode cX7_apart 37 = .ok (.if_icmp .ge 22, 3) := by decide +kernel
theorem dX7_apart_40 : decode cX7_apart 40 = .ok (.aload_n 0, 1) := by decide +kernel
theorem dX7_apart_41 : decode cX7_apart 41 = .ok (.getfield 65, 3) := by decide +kernel
theorem dX7_apart_44 : decode cX7_apart 44 = .ok (.iload_n 3, 1) := by decide +kernel
theorem dX7_apart_45 : decode cX7_apart 45 = .ok (.iaload, 1) := by decide +kernel
theorem dX7_apart_46 : decode cX7_apart 46 = .ok (.aload_n 0, 1) := by decide +kernel
theorem dX7_apart_47 : decode cX7_apart 47 = .ok (.getfield 65, 3) := by decide +kernel
theorem dX7_apart_50 : decode cX7_apart 50 = .ok (.iload 4, 2) := by decide +kernel
theorem dX7_apart_52 : decode cX7_apart 52 = .ok (.iaload, 1) := by decide +kernel
theorem dX7_apart_53 : decode cX7_apart 53 = .ok (.invokestatic 167, 3) := by decide +kernel
theorem dX7_apart_56 : decode cX7_apart 56 = .ok (.goto 4, 3) := by decide +kernel
theorem dX7_apart_59 : decode cX7_apart 59 = .ok (.iload_n 2, 1) := by decide +kernel
theorem dX7_apart_60 : decode cX7_apart 60 = .ok (.istore_n 2, 1) := by decide +kernel
theorem dX7_apart_61 : decode cX7_apart 61 = .ok (.iinc 4 1, 3) := by decide +kernel
theorem dX7_apart_64 : decode cX7_apart 64 = .ok (.goto (-50), 3) := by decide +kernel
theorem dX7_apart_67 : decode cX7_apart 67 = .ok (.iconst 0, 1) := by decide +kernel
theorem dX7_apart_68 : decode cX7_apart 68 = .ok (.istore 4, 2) := by decide +kernel
theorem dX7_apart_70 : decode cX7_apart 70 = .ok (.iload 4, 2) := by decide +kernel
theorem dX7_apart_72 : decode cX7_apart 72 = .ok (.aload_n 0, 1) := by decide +kernel
theorem dX7_apart_73 : decode cX7_apart 73 = .ok (.getfield 75, 3) := by decide +kernel
theorem dX7_apart_76 : decode cX7_apart 76 = .ok (.if_icmp .ge 50, 3) := by decide +kernel
theorem dX7_apart_79 : decode cX7_apart 79 = .ok (.aload_n 0, 1) := by decide +kernel
theorem dX7_apart_80 : decode cX7_apart 80 = .ok (.getfield 65, 3) := by decide +kernel
theorem dX7_apart_83 : decode cX7_apart 83 = .ok (.iload_n 3, 1) := by decide +kernel
theorem dX7_apart_84 : decode cX7_apart 84 = .ok (.iaload, 1) := by decide +kernel
theorem dX7_apart_85 : decode cX7_apart 85 = .ok (.aload_n 0, 1) := by decide +kernel
theorem dX7_apart_86 : decode cX7_apart 86 = .ok (.getfield 16, 3) := by decide +kernel
theorem dX7_apart_89 : decode cX7_apart 89 = .ok (.iload 4, 2) := by decide +kernel
theorem dX7_apart_91 : decode cX7_apart 91 = .ok (.iaload, 1) := by decide +kernel
theorem dX7_apart_92 : decode cX7_apart 92 = .ok (.invokestatic 167, 3) := by decide +kernel
theorem dX7_apart_95 : decode cX7_apart 95 = .ok (.iload_n 2, 1) := by decide +kernel
theorem dX7_apart_96 : decode cX7_apart 96 = .ok (.if_icmp .ge 22, 3) := by decide +kernel
theorem dX7_apart_99 : decode cX7_apart 99 = .ok (.aload_n 0, 1) := by decide +kernel
theorem dX7_apart_100 : decode cX7_apart 100 = .ok (.getfield 65, 3) := by decide +kernel
theorem dX7_apart_103 : decode cX7_apart 103 = .ok (.iload_n 3, 1) := by decide +kernel
theorem dX7_apart_104 : decode cX7_apart 104 = .ok (.iaload, 1) := by decide +kernel
theorem dX7_apart_105 : decode cX7_apart 105 = .ok (.aload_n 0, 1) := by decide +kernel
theorem dX7_apart_106 : decode cX7_apart 106 = .ok (.getfield 16, 3) := by decide +kernel
theorem dX7_apart_109 : decode cX7_apart 109 = .ok (.iload 4, 2) := by decide +kernel
theorem dX7_apart_111 : decode cX7_apart 111 = .ok (.iaload, 1) := by decide +kernel
theorem dX7_apart_112 : decode cX7_apart 112 = .ok (.invokestatic 167, 3) := by decide +kernel
theorem dX7_apart_115 : decode cX7_apart 115 = .ok (.goto 4, 3) := by decide +kernel
theorem dX7_apart_118 : decode cX7_apart 118 = .ok (.iload_n 2, 1) := by decide +kernel
theorem dX7_apart_119 : decode cX7_apart 119 = .ok (.istore_n 2, 1) := by decide +kernel
theorem dX7_apart_120 : decode cX7_apart 120 = .ok (.iinc 4 1, 3) := by decide +kernel
theorem dX7_apart_123 : decode cX7_apart 123 = .ok (.goto (-53), 3) := by decide +kernel
theorem dX7_apart_126 : decode cX7_apart 126 = .ok (.iinc 3 1, 3) := by decide +kernel
theorem dX7_apart_129 : decode cX7_apart 129 = .ok (.goto (-123), 3) := by decide +kernel
theorem dX7_apart_132 : decode cX7_apart 132 = .ok (.iload_n 2, 1) := by decide +kernel
theorem dX7_apart_133 : decode cX7_apart 133 = .ok (.ireturn, 1) := by decide +kernel
set_option maxRecDepth 20000 in
theorem ggX7_findTables_X7_isTaken : GoodIn wsX7_findTables wsX7_isTaken := goodIn_r _ [8, 9, 10, 18, 19, 20, 21, 22, 23, 24, 25, 26, 27, 28, 29, 30, 31, 32, 33, 34, 35, 36, 37, 38, 39, 40, 41, 42, 43, 44, 45, 46, 47, 48, 49, 50, 51, 52, 53, 54, 55, 56, 57] (by decide +kernel) (by decide +kernel)
set_option maxRecDepth 20000 in
theorem gX7_findTables_X7_isTaken : GoodIn wsX7_findTables (wsV RX7 216 RX7 yX7_isTaken wsX7_isTaken) := goodIn_app (goodIn_of _ (by decide +kernel)) ggX7_findTables_X7_isTaken
set_option maxRecDepth 20000 in
theorem ggX7_findTables_X7_apart : GoodIn wsX7_findTables wsX7_apart := goodIn_r _ [14, 2, 9, 10, 15, 16, 7, 17, 18, 19, 20, 21, 22, 23, 24, 25, 26, 27, 28, 29, 30, 31, 32, 33, 34, 35, 36, 37, 38, 39, 40, 41, 42, 43, 44, 45, 46, 47, 48, 49, 50, 51, 52, 53, 54, 55, 56, 57] (by decide +kernel) (by decide +kernel)
set_option maxRecDepth 20000 in
theorem gX7_findTables_X7_apart : GoodIn wsX7_findTables (wsV RX7 247 RX7 yX7_apart wsX7_apart) := goodIn_app (goodIn_of _ (by decide +kernel)) ggX7_findTables_X7_apart
theorem dX7_findTables_0 : decode cX7_findTables 0 = .ok (.iconst 0, 1) := by decide +kernel
theorem dX7_findTables_1 : decode cX7_findTables 1 = .ok (.istore 4, 2) := by decide +kernel
theorem dX7_findTables_3 : decode cX7_findTables 3 = .ok (.iconst 0, 1) := by decide +kernel
theorem dX7_findTables_4 : decode cX7_findTables 4 = .ok (.istore 5, 2) := by decide +kernel
theorem dX7_findTables_6 : decode cX7_findTables 6 = .ok (.iload 5, 2) := by decide +kernel
theorem dX7_findTables_8 : decode cX7_findTables 8 = .ok (.bipush 10, 2) := by decide +kernel
theorem dX7_findTables_10 : decode cX7_findTables 10 = .ok (.if_icmp .ge 53, 3) := by decide +kernel
theorem dX7_findTables_13 : decode cX7_findTables 13 = .ok (.iload_n 2, 1) := by decide +kernel
theorem dX7_findTables_14 : decode cX7_findTables 14 = .ok (.ifCond .eq 13, 3) := by decide +kernel
theorem dX7_findTables_17 : decode cX7_findTables 17 = .ok (.bipush 10, 2) := by decide +kernel
theorem dX7_findTables_19 : decode cX7_findTables 19 = .ok (.iload 5, 2) := by decide +kernel
theorem dX7_findTables_21 : decode cX7_findTables 21 = .ok (.imul, 1) := by decide +kernel
theorem dX7_findTables_22 : decode cX7_findTables 22 = .ok (.iload_n 3, 1) := by decide +kernel
theorem dX7_findTables_23 : decode cX7_findTables 23 = .ok (.iadd, 1) := by decide +kernel
theorem dX7_findTables_24 : decode cX7_findTables 24 = .ok (.goto 10, 3) := by decide +kernel
theorem dX7_findTables_27 : decode cX7_findTables 27 = .ok (.bipush 10, 2) := by decide +kernel
theorem dX7_findTables_29 : decode cX7_findTables 29 = .ok (.iload_n 3, 1) := by decide +kernel
theorem dX7_findTables_30 : decode cX7_findTables 30 = .ok (.imul, 1) := by decide +kernel
theorem dX7_findTables_31 : decode cX7_findTables 31 = .ok (.iload 5, 2) := by decide +kernel
theorem dX7_findTables_33 : decode cX7_findTables 33 = .ok (.iadd, 1) := by decide +kernel
theorem dX7_findTables_34 : decode cX7_findTables 34 = .ok (.istore 6, 2) := by decide +kernel
theorem dX7_findTables_36 : decode cX7_findTables 36 = .ok (.aload_n 0, 1) := by decide +kernel
theorem dX7_findTables_37 : decode cX7_findTables 37 = .ok (.iload 6, 2) := by decide +kernel
theorem dX7_findTables_39 : decode cX7_findTables 39 = .ok (.invokevirtual 216, 3) := by decide +kernel
theorem dX7_findTables_42 : decode cX7_findTables 42 = .ok (.ifCond .ne 15, 3) := by decide +kernel
theorem dX7_findTables_45 : decode cX7_findTables 45 = .ok (.aload_n 0, 1) := by decide +kernel
theorem dX7_findTables_46 : decode cX7_findTables 46 = .ok (.getfield 62, 3) := by decide +kernel
theorem dX7_findTables_49 : decode cX7_findTables 49 = .ok (.iload 4, 2) := by decide +kernel
theorem dX7_findTables_51 : decode cX7_findTables 51 = .ok (.iload 6, 2) := by decide +kernel
theorem dX7_findTables_53 : decode cX7_findTables 53 = .ok (.iastore, 1) := by decide +kernel
theorem dX7_findTables_54 : decode cX7_findTables 54 = .ok (.iinc 4 1, 3) := by decide +kernel
theorem dX7_findTables_57 : decode cX7_findTables 57 = .ok (.iinc 5 1, 3) := by decide +kernel
theorem dX7_findTables_60 : decode cX7_findTables 60 = .ok (.goto (-54), 3) := by decide +kernel
theorem dX7_findTables_63 : decode cX7_findTables 63 = .ok (.bipush (-9), 2) := by decide +kernel
theorem dX7_findTables_65 : decode cX7_findTables 65 = .ok (.istore 5, 2) := by decide +kernel
theorem dX7_findTables_67 : decode cX7_findTables 67 = .ok (.iload_n 1, 1) := by decide +kernel
theorem dX7_findTables_68 : decode cX7_findTables 68 = .ok (.iconst 1, 1) := by decide +kernel
theorem dX7_findTables_69 : decode cX7_findTables 69 = .ok (.if_icmp .ne 8, 3) := by decide +kernel
theorem dX7_findTables_72 : decode cX7_findTables 72 = .ok (.bipush 10, 2) := by decide +kernel
theorem dX7_findTables_74 : decode cX7_findTables 74 = .ok (.goto 27, 3) := by decide +kernel
theorem dX7_findTables_77 : decode cX7_findTables 77 = .ok (.iload_n 1, 1) := by decide +kernel
theorem dX7_findTables_78 : decode cX7_findTables 78 = .ok (.iconst 2, 1) := by decide +kernel
theorem dX7_findTables_79 : decode cX7_findTables 79 = .ok (.if_icmp .ne 8, 3) := by decide +kernel
theorem dX7_findTables_82 : decode cX7_findTables 82 = .ok (.bipush 100, 2) := by decide +kernel
theorem dX7_findTables_84 : decode cX7_findTables 84 = .ok (.goto 17, 3) := by decide +kernel
theorem dX7_findTables_87 : decode cX7_findTables 87 = .ok (.iload_n 1, 1) := by decide +kernel
theorem dX7_findTables_88 : decode cX7_findTables 88 = .ok (.iconst 3, 1) := by decide +kernel
theorem dX7_findTables_89 : decode cX7_findTables 89 = .ok (.if_icmp .ne 9, 3) := by decide +kernel
theorem dX7_findTables_92 : decode cX7_findTables 92 = .ok (.sipush 1000, 3) := by decide +kernel
theorem dX7_findTables_95 : decode cX7_findTables 95 = .ok (.goto 6, 3) := by decide +kernel
theorem dX7_findTables_98 : decode cX7_findTables 98 = .ok (.sipush 10000, 3) := by decide +kernel
theorem dX7_findTables_101 : decode cX7_findTables 101 = .ok (.istore 6, 2) := by decide +kernel
theorem dX7_findTables_103 : decode cX7_findTables 103 = .ok (.iconst 0, 1) := by decide +kernel
theorem dX7_findTables_104 : decode cX7_findTables 104 = .ok (.istore 7, 2) := by decide +kernel
theorem dX7_findTables_106 : decode cX7_findTables 106 = .ok (.iload 7, 2) := by decide +kernel
theorem dX7_findTables_108 : decode cX7_findTables 108 = .ok (.iload 6, 2) := by decide +kernel
theorem dX7_findTables_110 : decode cX7_findTables 110 = .ok (.if_icmp .ge 155, 3) := by decide +kernel
theorem dX7_findTables_113 : decode cX7_findTables 113 = .ok (.iload 6, 2) := by decide +kernel
theorem dX7_findTables_115 : decode cX7_findTables 115 = .ok (.istore 8, 2) := by decide +kernel
theorem dX7_findTables_117 : decode cX7_findTables 117 = .ok (.iconst (-1), 1) := by decide +kernel
theorem dX7_findTables_118 : decode cX7_findTables 118 = .ok (.istore 9, 2) := by decide +kernel
theorem dX7_findTables_120 : decode cX7_findTables 120 = .ok (.iconst 1, 1) := by decide +kernel
theorem dX7_findTables_121 : decode cX7_findTables 121 = .ok (.istore 10, 2) := by decide +kernel
theorem dX7_findTables_123 : decode cX7_findTables 123 = .ok (.iconst 0, 1) := by decide +kernel
theorem dX7_findTables_124 : decode cX7_findTables 124 = .ok (.istore 11, 2) := by decide +kernel
theorem dX7_findTables_126 : decode cX7_findTables 126 = .ok (.iload 11, 2) := by decide +kernel
theorem dX7_findTables_128 : decode cX7_findTables 128 = .ok (.iload_n 1, 1) := by decide +kernel
theorem dX7_findTables_129 : decode cX7_findTables 129 = .ok (.if_icmp .ge 79, 3) := by decide +kernel
theorem dX7_findTables_132 : decode cX7_findTables 132 = .ok (.iload 10, 2) := by decide +kernel
theorem dX7_findTables_134 : decode cX7_findTables 134 = .ok (.ifCond .eq 74, 3) := by decide +kernel
theorem dX7_findTables_137 : decode cX7_findTables 137 = .ok (.iload 8, 2) := by decide +kernel
theorem dX7_findTables_139 : decode cX7_findTables 139 = .ok (.bipush 10, 2) := by decide +kernel
theorem dX7_findTables_141 : decode cX7_findTables 141 = .ok (.idiv, 1) := by decide +kernel
theorem dX7_findTables_142 : decode cX7_findTables 142 = .ok (.istore 8, 2) := by decide +kernel
theorem dX7_findTables_144 : decode cX7_findTables 144 = .ok (.iload 7, 2) := by decide +kernel
theorem dX7_findTables_146 : decode cX7_findTables 146 = .ok (.iload 8, 2) := by decide +kernel
theorem dX7_findTables_148 : decode cX7_findTables 148 = .ok (.idiv, 1) := by decide +kernel
theorem dX7_findTables_149 : decode cX7_findTables 149 = .ok (.bipush 10, 2) := by decide +kernel
theorem dX7_findTables_151 : decode cX7_findTables 151 = .ok (.irem, 1) := by decide +kernel
theorem dX7_findTables_152 : decode cX7_findTables 152 = .ok (.istore 12, 2) := by decide +kernel
theorem dX7_findTables_154 : decode cX7_findTables 154 = .ok (.iload 12, 2) := by decide +kernel
theorem dX7_findTables_156 : decode cX7_findTables 156 = .ok (.iload 9, 2) := by decide +kernel
theorem dX7_findTables_158 : decode cX7_findTables 158 = .ok (.if_icmp .le 14, 3) := by decide +kernel
theorem dX7_findTables_161 : decode cX7_findTables 161 = .ok (.iload 12, 2) := by decide +kernel
theorem dX7_findTables_163 : decode cX7_findTables 163 = .ok (.iload 4, 2) := by decide +kernel
theorem dX7_findTables_165 : decode cX7_findTables 165 = .ok (.if_icmp .ge 7, 3) := by decide +kernel
theorem dX7_findTables_168 : decode cX7_findTables 168 = .ok (.iconst 1, 1) := by decide +kernel
theorem dX7_findTables_169 : decode cX7_findTables 169 = .ok (.goto 4, 3) := by decide +kernel
theorem dX7_findTables_172 : decode cX7_findTables 172 = .ok (.iconst 0, 1) := by decide +kernel
theorem dX7_findTables_173 : decode cX7_findTables 173 = .ok (.istore 10, 2) := by decide +kernel
theorem dX7_findTables_175 : decode cX7_findTables 175 = .ok (.iload 12, 2) := by decide +kernel
theorem dX7_findTables_177 : decode cX7_findTables 177 = .ok (.istore 9, 2) := by decide +kernel
theorem dX7_findTables_179 : decode cX7_findTables 179 = .ok (.aload_n 0, 1) := by decide +kernel
theorem dX7_findTables_180 : decode cX7_findTables 180 = .ok (.getfield 65, 3) := by decide +kernel
theorem dX7_findTables_183 : decode cX7_findTables 183 = .ok (.iload 11, 2) := by decide +kernel
theorem dX7_findTables_185 : decode cX7_findTables 185 = .ok (.iload 10, 2) := by decide +kernel
theorem dX7_findTables_187 : decode cX7_findTables 187 = .ok (.ifCond .eq 13, 3) := by decide +kernel
theorem dX7_findTables_190 : decode cX7_findTables 190 = .ok (.aload_n 0, 1) := by decide +kernel
theorem dX7_findTables_191 : decode cX7_findTables 191 = .ok (.getfield 62, 3) := by decide +kernel
theorem dX7_findTables_194 : decode cX7_findTables 194 = .ok (.iload 12, 2) := by decide +kernel
theorem dX7_findTables_196 : decode cX7_findTables 196 = .ok (.iaload, 1) := by decide +kernel
theorem dX7_findTables_197 : decode cX7_findTables 197 = .ok (.goto 4, 3) := by decide +kernel
theorem dX7_findTables_200 : decode cX7_findTables 200 = .ok (.iconst 0, 1) := by decide +kernel
theorem dX7_findTables_201 : decode cX7_findTables 201 = .ok (.iastore, 1) := by decide +kernel
theorem dX7_findTables_202 : decode cX7_findTables 202 = .ok (.iinc 11 1, 3) := by decide +kernel
theorem dX7_findTables_205 : decode cX7_findTables 205 = .ok (.goto (-79), 3) := by decide +kernel
theorem dX7_findTables_208 : decode cX7_findTables 208 = .ok (.iload 10, 2) := by decide +kernel
theorem dX7_findTables_210 : decode cX7_findTables 210 = .ok (.ifCond .eq 49, 3) := by decide +kernel
theorem dX7_findTables_213 : decode cX7_findTables 213 = .ok (.aload_n 0, 1) := by decide +kernel
theorem dX7_findTables_214 : decode cX7_findTables 214 = .ok (.iload_n 1, 1) := by decide +kernel
theorem dX7_findTables_215 : decode cX7_findTables 215 = .ok (.invokevirtual 247, 3) := by decide +kernel
theorem dX7_findTables_218 : decode cX7_findTables 218 = .ok (.iload 5, 2) := by decide +kernel
theorem dX7_findTables_220 : decode cX7_findTables 220 = .ok (.if_icmp .le 39, 3) := by decide +kernel
theorem dX7_findTables_223 : decode cX7_findTables 223 = .ok (.aload_n 0, 1) := by decide +kernel
theorem dX7_findTables_224 : decode cX7_findTables 224 = .ok (.iload_n 1, 1) := by decide +kernel
theorem dX7_findTables_225 : decode cX7_findTables 225 = .ok (.invokevirtual 247, 3) := by decide +kernel
theorem dX7_findTables_228 : decode cX7_findTables 228 = .ok (.istore 5, 2) := by decide +kernel
theorem dX7_findTables_230 : decode cX7_findTables 230 = .ok (.iconst 0, 1) := by decide +kernel
theorem dX7_findTables_231 : decode cX7_findTables 231 = .ok (.istore 11, 2) := by decide +kernel
theorem dX7_findTables_233 : decode cX7_findTables 233 = .ok (.iload 11, 2) := by decide +kernel
theorem dX7_findTables_235 : decode cX7_findTables 235 = .ok (.iload_n 1, 1) := by decide +kernel
theorem dX7_findTables_236 : decode cX7_findTables 236 = .ok (.if_icmp .ge 23, 3) := by decide +kernel
theorem dX7_findTables_239 : decode cX7_findTables 239 = .ok (.aload_n 0, 1) := by decide +kernel
theorem dX7_findTables_240 : decode cX7_findTables 240 = .ok (.getfield 68, 3) := by decide +kernel
theorem dX7_findTables_243 : decode cX7_findTables 243 = .ok (.iload 11, 2) := by decide +kernel
theorem dX7_findTables_245 : decode cX7_findTables 245 = .ok (.aload_n 0, 1) := by decide +kernel
theorem dX7_findTables_246 : decode cX7_findTables 246 = .ok (.getfield 65, 3) := by decide +kernel
theorem dX7_findTables_249 : decode cX7_findTables 249 = .ok (.iload 11, 2) := by decide +kernel
theorem dX7_findTables_251 : decode cX7_findTables 251 = .ok (.iaload, 1) := by decide +kernel
theorem dX7_findTables_252 : decode cX7_findTables 252 = .ok (.iastore, 1) := by decide +kernel
theorem dX7_findTables_253 : decode cX7_findTables 253 = .ok (.iinc 11 1, 3) := by decide +kernel
theorem dX7_findTables_256 : decode cX7_findTables 256 = .ok (.goto (-23), 3) := by decide +kernel
theorem dX7_findTables_259 : decode cX7_findTables 259 = .ok (.iinc 7 1, 3) := by decide +kernel
theorem dX7_findTables_262 : decode cX7_findTables 262 = .ok (.goto (-156), 3) := by decide +kernel
theorem dX7_findTables_265 : decode cX7_findTables 265 = .ok (.iload 5, 2) := by decide +kernel
theorem dX7_findTables_267 : decode cX7_findTables 267 = .ok (.ireturn, 1) := by decide +kernel
set_option maxRecDepth 20000 in
theorem ggX7_tables_X7_in : GoodIn wsX7_tables wsX7_in := goodIn_r _ [7] (by decide +kernel) (by decide +kernel)
set_option maxRecDepth 20000 in
theorem gX7_tables_X7_in : GoodIn wsX7_tables (va_wsS RX7 78 yX7_in wsX7_in) := goodIn_app (goodIn_of _ (by decide +kernel)) ggX7_tables_X7_in
set_option maxRecDepth 20000 in
theorem ggX7_tables_X7_findTables : GoodIn wsX7_tables wsX7_findTables := goodIn_r _ [11, 12, 13, 14, 15, 16, 17, 6, 18, 19, 20, 21, 22, 23, 24, 25, 26, 27, 28, 29, 30, 31, 32, 33, 34, 35, 36, 37, 38, 39, 40, 41, 42, 43, 44, 45, 46, 47, 48, 49, 50, 51, 52, 53, 54, 55, 56, 57, 58, 59, 60, 61, 62, 63, 64, 65, 66, 67] (by decide +kernel) (by decide +kernel)
set_option maxRecDepth 20000 in
theorem gX7_tables_X7_findTables : GoodIn wsX7_tables (wsV RX7 252 RX7 yX7_findTables wsX7_findTables) := goodIn_app (goodIn_of _ (by decide +kernel)) ggX7_tables_X7_findTables
theorem dX7_tables_0 : decode cX7_tables 0 = .ok (.aload_n 0, 1) := by decide +kernel
theorem dX7_tables_1 : decode cX7_tables 1 = .ok (.iconst 0, 1) := by decide +kernel
theorem dX7_tables_2 : decode cX7_tables 2 = .ok (.putfield 71, 3) := by decide +kernel
theorem dX7_tables_5 : decode cX7_tables 5 = .ok (.iload_n 1, 1) := by decide +kernel
theorem dX7_tables_6 : decode cX7_tables 6 = .ok (.i2l, 1) := by decide +kernel
theorem dX7_tables_7 : decode cX7_tables 7 = .ok (.lconst 1, 1) := by decide +kernel
theorem dX7_tables_8 : decode cX7_tables 8 = .ok (.ldc2_w 250, 3) := by decide +kernel
theorem dX7_tables_11 : decode cX7_tables 11 = .ok (.invokestatic 78, 3) := by decide +kernel
theorem dX7_tables_14 : decode cX7_tables 14 = .ok (.ifCond .eq 25, 3) := by decide +kernel
theorem dX7_tables_17 : decode cX7_tables 17 = .ok (.iload_n 3, 1) := by decide +kernel
theorem dX7_tables_18 : decode cX7_tables 18 = .ok (.i2l, 1) := by decide +kernel
theorem dX7_tables_19 : decode cX7_tables 19 = .ok (.lconst 0, 1) := by decide +kernel
theorem dX7_tables_20 : decode cX7_tables 20 = .ok (.ldc2_w 204, 3) := by decide +kernel
theorem dX7_tables_23 : decode cX7_tables 23 = .ok (.invokestatic 78, 3) := by decide +kernel
theorem dX7_tables_26 : decode cX7_tables 26 = .ok (.ifCond .eq 13, 3) := by decide +kernel
theorem dX7_tables_29 : decode cX7_tables 29 = .ok (.aload_n 0, 1) := by decide +kernel
theorem dX7_tables_30 : decode cX7_tables 30 = .ok (.iload_n 1, 1) := by decide +kernel
theorem dX7_tables_31 : decode cX7_tables 31 = .ok (.iload_n 2, 1) := by decide +kernel
theorem dX7_tables_32 : decode cX7_tables 32 = .ok (.iload_n 3, 1) := by decide +kernel
theorem dX7_tables_33 : decode cX7_tables 33 = .ok (.invokevirtual 252, 3) := by decide +kernel
theorem dX7_tables_36 : decode cX7_tables 36 = .ok (.goto 5, 3) := by decide +kernel
theorem dX7_tables_39 : decode cX7_tables 39 = .ok (.bipush (-2), 2) := by decide +kernel
theorem dX7_tables_41 : decode cX7_tables 41 = .ok (.ireturn, 1) := by decide +kernel
set_option maxRecDepth 20000 in
theorem ggX7_tableAt_X7_in : GoodIn wsX7_tableAt wsX7_in := goodIn_r _ [8] (by decide +kernel) (by decide +kernel)
set_option maxRecDepth 20000 in
theorem gX7_tableAt_X7_in : GoodIn wsX7_tableAt (va_wsS RX7 78 yX7_in wsX7_in) := goodIn_app (goodIn_of _ (by decide +kernel)) ggX7_tableAt_X7_in
set_option maxRecDepth 20000 in
theorem ggX7_tableAt_X7_findTables : GoodIn wsX7_tableAt wsX7_findTables := goodIn_r _ [12, 13, 14, 4, 15, 16, 17, 7, 18, 19, 20, 21, 22, 23, 24, 25, 26, 27, 28, 29, 30, 31, 32, 33, 34, 35, 36, 37, 38, 39, 40, 41, 42, 43, 44, 45, 46, 47, 48, 49, 50, 51, 52, 53, 54, 55, 56, 57, 58, 59, 60, 61, 62, 63, 64, 65, 66, 67] (by decide +kernel) (by decide +kernel)
set_option maxRecDepth 20000 in
theorem gX7_tableAt_X7_findTables : GoodIn wsX7_tableAt (wsV RX7 252 RX7 yX7_findTables wsX7_findTables) := goodIn_app (goodIn_of _ (by decide +kernel)) ggX7_tableAt_X7_findTables
theorem dX7_tableAt_0 : decode cX7_tableAt 0 = .ok (.aload_n 0, 1) := by decide +kernel
theorem dX7_tableAt_1 : decode cX7_tableAt 1 = .ok (.iconst 0, 1) := by decide +kernel
theorem dX7_tableAt_2 : decode cX7_tableAt 2 = .ok (.putfield 71, 3) := by decide +kernel
theorem dX7_tableAt_5 : decode cX7_tableAt 5 = .ok (.iload_n 1, 1) := by decide +kernel
theorem dX7_tableAt_6 : decode cX7_tableAt 6 = .ok (.i2l, 1) := by decide +kernel
theorem dX7_tableAt_7 : decode cX7_tableAt 7 = .ok (.lconst 1, 1) := by decide +kernel
theorem dX7_tableAt_8 : decode cX7_tableAt 8 = .ok (.ldc2_w 250, 3) := by decide +kernel
theorem dX7_tableAt_11 : decode cX7_tableAt 11 = .ok (.invokestatic 78, 3) := by decide +kernel
theorem dX7_tableAt_14 : decode cX7_tableAt 14 = .ok (.ifCond .eq 15, 3) := by decide +kernel
theorem dX7_tableAt_17 : decode cX7_tableAt 17 = .ok (.iload_n 3, 1) := by decide +kernel
theorem dX7_tableAt_18 : decode cX7_tableAt 18 = .ok (.i2l, 1) := by decide +kernel
theorem dX7_tableAt_19 : decode cX7_tableAt 19 = .ok (.lconst 0, 1) := by decide +kernel
theorem dX7_tableAt_20 : decode cX7_tableAt 20 = .ok (.ldc2_w 204, 3) := by decide +kernel
theorem dX7_tableAt_23 : decode cX7_tableAt 23 = .ok (.invokestatic 78, 3) := by decide +kernel
theorem dX7_tableAt_26 : decode cX7_tableAt 26 = .ok (.ifCond .ne 6, 3) := by decide +kernel
theorem dX7_tableAt_29 : decode cX7_tableAt 29 = .ok (.bipush (-2), 2) := by decide +kernel
theorem dX7_tableAt_31 : decode cX7_tableAt 31 = .ok (.ireturn, 1) := by decide +kernel
theorem dX7_tableAt_32 : decode cX7_tableAt 32 = .ok (.aload_n 0, 1) := by decide +kernel
theorem dX7_tableAt_33 : decode cX7_tableAt 33 = .ok (.iload_n 1, 1) := by decide +kernel
theorem dX7_tableAt_34 : decode cX7_tableAt 34 = .ok (.iload_n 2, 1) := by decide +kernel
theorem dX7_tableAt_35 : decode cX7_tableAt 35 = .ok (.iload_n 3, 1) := by decide +kernel
theorem dX7_tableAt_36 : decode cX7_tableAt 36 = .ok (.invokevirtual 252, 3) := by decide +kernel
theorem dX7_tableAt_39 : decode cX7_tableAt 39 = .ok (.bipush (-9), 2) := by decide +kernel
theorem dX7_tableAt_41 : decode cX7_tableAt 41 = .ok (.if_icmp .eq 27, 3) := by decide +kernel
theorem dX7_tableAt_44 : decode cX7_tableAt 44 = .ok (.iload 4, 2) := by decide +kernel
theorem dX7_tableAt_46 : decode cX7_tableAt 46 = .ok (.i2l, 1) := by decide +kernel
theorem dX7_tableAt_47 : decode cX7_tableAt 47 = .ok (.lconst 0, 1) := by decide +kernel
theorem dX7_tableAt_48 : decode cX7_tableAt 48 = .ok (.iload_n 1, 1) := by decide +kernel
theorem dX7_tableAt_49 : decode cX7_tableAt 49 = .ok (.iconst 1, 1) := by decide +kernel
theorem dX7_tableAt_50 : decode cX7_tableAt 50 = .ok (.isub, 1) := by decide +kernel
theorem dX7_tableAt_51 : decode cX7_tableAt 51 = .ok (.i2l, 1) := by decide +kernel
theorem dX7_tableAt_52 : decode cX7_tableAt 52 = .ok (.invokestatic 78, 3) := by decide +kernel
theorem dX7_tableAt_55 : decode cX7_tableAt 55 = .ok (.ifCond .eq 13, 3) := by decide +kernel
theorem dX7_tableAt_58 : decode cX7_tableAt 58 = .ok (.aload_n 0, 1) := by decide +kernel
theorem dX7_tableAt_59 : decode cX7_tableAt 59 = .ok (.getfield 68, 3) := by decide +kernel
theorem dX7_tableAt_62 : decode cX7_tableAt 62 = .ok (.iload 4, 2) := by decide +kernel
theorem dX7_tableAt_64 : decode cX7_tableAt 64 = .ok (.iaload, 1) := by decide +kernel
theorem dX7_tableAt_65 : decode cX7_tableAt 65 = .ok (.goto 5, 3) := by decide +kernel
theorem dX7_tableAt_68 : decode cX7_tableAt 68 = .ok (.bipush (-9), 2) := by decide +kernel
theorem dX7_tableAt_70 : decode cX7_tableAt 70 = .ok (.ireturn, 1) := by decide +kernel
theorem dX7_divisor_0 : decode cX7_divisor 0 = .ok (.lload_n 0, 1) := by decide +kernel
theorem dX7_divisor_1 : decode cX7_divisor 1 = .ok (.lstore 4, 2) := by decide +kernel
theorem dX7_divisor_3 : decode cX7_divisor 3 = .ok (.lload_n 2, 1) := by decide +kernel
theorem dX7_divisor_4 : decode cX7_divisor 4 = .ok (.lstore 6, 2) := by decide +kernel
theorem dX7_divisor_6 : decode cX7_divisor 6 = .ok (.lload 6, 2) := by decide +kernel
theorem dX7_divisor_8 : decode cX7_divisor 8 = .ok (.lconst 0, 1) := by decide +kernel
theorem dX7_divisor_9 : decode cX7_divisor 9 = .ok (.lcmp, 1) := by decide +kernel
theorem dX7_divisor_10 : decode cX7_divisor 10 = .ok (.ifCond .eq 21, 3) := by decide +kernel
theorem dX7_divisor_13 : decode cX7_divisor 13 = .ok (.lload 4, 2) := by decide +kernel
theorem dX7_divisor_15 : decode cX7_divisor 15 = .ok (.lload 6, 2) := by decide +kernel
theorem dX7_divisor_17 : decode cX7_divisor 17 = .ok (.lrem, 1) := by decide +kernel
theorem dX7_divisor_18 : decode cX7_divisor 18 = .ok (.lstore 8, 2) := by decide +kernel
theorem dX7_divisor_20 : decode cX7_divisor 20 = .ok (.lload 6, 2) := by decide +kernel
theorem dX7_divisor_22 : decode cX7_divisor 22 = .ok (.lstore 4, 2) := by decide +kernel
theorem dX7_divisor_24 : decode cX7_divisor 24 = .ok (.lload 8, 2) := by decide +kernel
theorem dX7_divisor_26 : decode cX7_divisor 26 = .ok (.lstore 6, 2) := by decide +kernel
theorem dX7_divisor_28 : decode cX7_divisor 28 = .ok (.goto (-22), 3) := by decide +kernel
theorem dX7_divisor_31 : decode cX7_divisor 31 = .ok (.lload 4, 2) := by decide +kernel
theorem dX7_divisor_33 : decode cX7_divisor 33 = .ok (.lreturn, 1) := by decide +kernel
set_option maxRecDepth 20000 in
theorem ggX7_chance_X7_noRing : GoodIn wsX7_chance wsX7_noRing := goodIn_r _ [11, 5, 12, 13, 10, 14, 77, 78, 79, 80, 81, 82, 83, 84, 85, 86, 87, 88, 89, 90, 91, 92, 93, 94, 95, 96, 97, 98, 99, 100, 101, 102, 103, 104, 105, 106, 107, 108, 109, 110, 111, 112, 113, 114, 115, 116] (by decide +kernel) (by decide +kernel)
set_option maxRecDepth 20000 in
theorem gX7_chance_X7_noRing : GoodIn wsX7_chance (wsV RX7 201 RX7 yX7_noRing wsX7_noRing) := goodIn_app (goodIn_of _ (by decide +kernel)) ggX7_chance_X7_noRing
set_option maxRecDepth 20000 in
theorem ggX7_chance_X7_in : GoodIn wsX7_chance wsX7_in := goodIn_r _ [14] (by decide +kernel) (by decide +kernel)
set_option maxRecDepth 20000 in
theorem gX7_chance_X7_in : GoodIn wsX7_chance (va_wsS RX7 78 yX7_in wsX7_in) := goodIn_app (goodIn_of _ (by decide +kernel)) ggX7_chance_X7_in
set_option maxRecDepth 20000 in
theorem ggX7_chance_X7_begin : GoodIn wsX7_chance wsX7_begin := goodIn_r _ [18, 5, 19, 20, 21, 22, 23, 24, 25, 6, 26, 27, 77, 78, 79, 80, 81, 82, 83, 84, 85, 86, 87, 88, 89, 90, 91, 92, 93, 94, 95, 96, 97, 98, 99, 100, 101, 102, 103, 104, 105, 106, 107, 108, 109, 110, 111, 112, 113, 114, 115, 116] (by decide +kernel) (by decide +kernel)
set_option maxRecDepth 20000 in
theorem gX7_chance_X7_begin : GoodIn wsX7_chance (wsV RX7 195 RX7 yX7_begin wsX7_begin) := goodIn_app (goodIn_of _ (by decide +kernel)) ggX7_chance_X7_begin
set_option maxRecDepth 20000 in
theorem ggX7_chance_X7_has : GoodIn wsX7_chance wsX7_has := goodIn_r _ [30] (by decide +kernel) (by decide +kernel)
set_option maxRecDepth 20000 in
theorem gX7_chance_X7_has : GoodIn wsX7_chance (va_wsS RX7 153 yX7_has wsX7_has) := goodIn_app (goodIn_of _ (by decide +kernel)) ggX7_chance_X7_has
set_option maxRecDepth 20000 in
theorem ggX7_chance_X7_hears : GoodIn wsX7_chance wsX7_hears := goodIn_r _ [34, 35, 36, 37, 38, 10, 39, 40, 6, 19, 28, 29, 30, 41, 42, 43, 44, 45, 46, 47, 48, 49, 23, 50, 51, 52, 53, 25, 54, 55, 56, 57, 58, 59, 60, 61, 22, 62, 63, 64, 65, 66, 67, 68, 69, 70, 71, 72, 73, 77, 78, 79, 80, 81, 82, 83, 84, 85, 86, 87, 88, 89, 90, 91, 92, 93, 94, 95, 96, 97, 98, 99, 100, 101, 102, 103, 104, 105, 106, 107, 108, 109, 110, 111, 112, 113, 114, 115, 116] (by decide +kernel) (by decide +kernel)
set_option maxRecDepth 20000 in
theorem gX7_chance_X7_hears : GoodIn wsX7_chance (wsV RX7 186 RX7 yX7_hears wsX7_hears) := goodIn_app (goodIn_of _ (by decide +kernel)) ggX7_chance_X7_hears
set_option maxRecDepth 20000 in
theorem ggX7_chance_X7_divisor : GoodIn wsX7_chance wsX7_divisor := goodIn_r _ [76] (by decide +kernel) (by decide +kernel)
set_option maxRecDepth 20000 in
theorem gX7_chance_X7_divisor : GoodIn wsX7_chance (va_wsS RX7 262 yX7_divisor wsX7_divisor) := goodIn_app (goodIn_of _ (by decide +kernel)) ggX7_chance_X7_divisor
theorem dX7_chance_0 : decode cX7_chance 0 = .ok (.aload_n 0, 1) := by decide +kernel
theorem dX7_chance_1 : decode cX7_chance 1 = .ok (.iconst 0, 1) := by decide +kernel
theorem dX7_chance_2 : decode cX7_chance 2 = .ok (.putfield 71, 3) := by decide +kernel
theorem dX7_chance_5 : decode cX7_chance 5 = .ok (.aload_n 0, 1) := by decide +kernel
theorem dX7_chance_6 : decode cX7_chance 6 = .ok (.iload_n 1, 1) := by decide +kernel
theorem dX7_chance_7 : decode cX7_chance 7 = .ok (.invokevirtual 201, 3) := by decide +kernel
theorem dX7_chance_10 : decode cX7_chance 10 = .ok (.ifCond .eq 7, 3) := by decide +kernel
theorem dX7_chance_13 : decode cX7_chance 13 = .ok (.ldc2_w 256, 3) := by decide +kernel
theorem dX7_chance_16 : decode cX7_chance 16 = .ok (.lreturn, 1) := by decide +kernel
theorem dX7_chance_17 : decode cX7_chance 17 = .ok (.iload_n 2, 1) := by decide +kernel
theorem dX7_chance_18 : decode cX7_chance 18 = .ok (.i2l, 1) := by decide +kernel
theorem dX7_chance_19 : decode cX7_chance 19 = .ok (.lconst 0, 1) := by decide +kernel
theorem dX7_chance_20 : decode cX7_chance 20 = .ok (.ldc2_w 258, 3) := by decide +kernel
theorem dX7_chance_23 : decode cX7_chance 23 = .ok (.invokestatic 78, 3) := by decide +kernel
theorem dX7_chance_26 : decode cX7_chance 26 = .ok (.ifCond .ne 7, 3) := by decide +kernel
theorem dX7_chance_29 : decode cX7_chance 29 = .ok (.ldc2_w 260, 3) := by decide +kernel
theorem dX7_chance_32 : decode cX7_chance 32 = .ok (.lreturn, 1) := by decide +kernel
theorem dX7_chance_33 : decode cX7_chance 33 = .ok (.aload_n 0, 1) := by decide +kernel
theorem dX7_chance_34 : decode cX7_chance 34 = .ok (.invokevirtual 195, 3) := by decide +kernel
theorem dX7_chance_37 : decode cX7_chance 37 = .ok (.lconst 0, 1) := by decide +kernel
theorem dX7_chance_38 : decode cX7_chance 38 = .ok (.lstore 4, 2) := by decide +kernel
theorem dX7_chance_40 : decode cX7_chance 40 = .ok (.lconst 1, 1) := by decide +kernel
theorem dX7_chance_41 : decode cX7_chance 41 = .ok (.lstore 6, 2) := by decide +kernel
theorem dX7_chance_43 : decode cX7_chance 43 = .ok (.iconst 0, 1) := by decide +kernel
theorem dX7_chance_44 : decode cX7_chance 44 = .ok (.istore 8, 2) := by decide +kernel
theorem dX7_chance_46 : decode cX7_chance 46 = .ok (.iload 8, 2) := by decide +kernel
theorem dX7_chance_48 : decode cX7_chance 48 = .ok (.aload_n 0, 1) := by decide +kernel
theorem dX7_chance_49 : decode cX7_chance 49 = .ok (.getfield 75, 3) := by decide +kernel
theorem dX7_chance_52 : decode cX7_chance 52 = .ok (.if_icmp .ge 27, 3) := by decide +kernel
theorem dX7_chance_55 : decode cX7_chance 55 = .ok (.lload 6, 2) := by decide +kernel
theorem dX7_chance_57 : decode cX7_chance 57 = .ok (.iload 8, 2) := by decide +kernel
theorem dX7_chance_59 : decode cX7_chance 59 = .ok (.iload_n 1, 1) := by decide +kernel
theorem dX7_chance_60 : decode cX7_chance 60 = .ok (.if_icmp .ne 7, 3) := by decide +kernel
theorem dX7_chance_63 : decode cX7_chance 63 = .ok (.lconst 1, 1) := by decide +kernel
theorem dX7_chance_64 : decode cX7_chance 64 = .ok (.goto 6, 3) := by decide +kernel
theorem dX7_chance_67 : decode cX7_chance 67 = .ok (.ldc2_w 258, 3) := by decide +kernel
theorem dX7_chance_70 : decode cX7_chance 70 = .ok (.lmul, 1) := by decide +kernel
theorem dX7_chance_71 : decode cX7_chance 71 = .ok (.lstore 6, 2) := by decide +kernel
theorem dX7_chance_73 : decode cX7_chance 73 = .ok (.iinc 8 1, 3) := by decide +kernel
theorem dX7_chance_76 : decode cX7_chance 76 = .ok (.goto (-30), 3) := by decide +kernel
theorem dX7_chance_79 : decode cX7_chance 79 = .ok (.iconst 0, 1) := by decide +kernel
theorem dX7_chance_80 : decode cX7_chance 80 = .ok (.istore 8, 2) := by decide +kernel
theorem dX7_chance_82 : decode cX7_chance 82 = .ok (.iload 8, 2) := by decide +kernel
theorem dX7_chance_84 : decode cX7_chance 84 = .ok (.iconst 1, 1) := by decide +kernel
theorem dX7_chance_85 : decode cX7_chance 85 = .ok (.aload_n 0, 1) := by decide +kernel
theorem dX7_chance_86 : decode cX7_chance 86 = .ok (.getfield 75, 3) := by decide +kernel
theorem dX7_chance_89 : decode cX7_chance 89 = .ok (.ishl, 1) := by decide +kernel
theorem dX7_chance_90 : decode cX7_chance 90 = .ok (.if_icmp .ge 99, 3) := by decide +kernel
theorem dX7_chance_93 : decode cX7_chance 93 = .ok (.iload 8, 2) := by decide +kernel
theorem dX7_chance_95 : decode cX7_chance 95 = .ok (.iload_n 1, 1) := by decide +kernel
theorem dX7_chance_96 : decode cX7_chance 96 = .ok (.invokestatic 153, 3) := by decide +kernel
theorem dX7_chance_99 : decode cX7_chance 99 = .ok (.ifCond .eq 84, 3) := by decide +kernel
theorem dX7_chance_102 : decode cX7_chance 102 = .ok (.lconst 1, 1) := by decide +kernel
theorem dX7_chance_103 : decode cX7_chance 103 = .ok (.lstore 9, 2) := by decide +kernel
theorem dX7_chance_105 : decode cX7_chance 105 = .ok (.iconst 0, 1) := by decide +kernel
theorem dX7_chance_106 : decode cX7_chance 106 = .ok (.istore 11, 2) := by decide +kernel
theorem dX7_chance_108 : decode cX7_chance 108 = .ok (.iload 11, 2) := by decide +kernel
theorem dX7_chance_110 : decode cX7_chance 110 = .ok (.aload_n 0, 1) := by decide +kernel
theorem dX7_chance_111 : decode cX7_chance 111 = .ok (.getfield 75, 3) := by decide +kernel
theorem dX7_chance_114 : decode cX7_chance 114 = .ok (.if_icmp .ge 44, 3) := by decide +kernel
theorem dX7_chance_117 : decode cX7_chance 117 = .ok (.lload 9, 2) := by decide +kernel
theorem dX7_chance_119 : decode cX7_chance 119 = .ok (.iload 11, 2) := by decide +kernel
theorem dX7_chance_121 : decode cX7_chance 121 = .ok (.iload_n 1, 1) := by decide +kernel
theorem dX7_chance_122 : decode cX7_chance 122 = .ok (.if_icmp .ne 7, 3) := by decide +kernel
theorem dX7_chance_125 : decode cX7_chance 125 = .ok (.lconst 1, 1) := by decide +kernel
theorem dX7_chance_126 : decode cX7_chance 126 = .ok (.goto 23, 3) := by decide +kernel
theorem dX7_chance_129 : decode cX7_chance 129 = .ok (.iload 8, 2) := by decide +kernel
theorem dX7_chance_131 : decode cX7_chance 131 = .ok (.iload 11, 2) := by decide +kernel
theorem dX7_chance_133 : decode cX7_chance 133 = .ok (.invokestatic 153, 3) := by decide +kernel
theorem dX7_chance_136 : decode cX7_chance 136 = .ok (.ifCond .eq 8, 3) := by decide +kernel
theorem dX7_chance_139 : decode cX7_chance 139 = .ok (.iload_n 2, 1) := by decide +kernel
theorem dX7_chance_140 : decode cX7_chance 140 = .ok (.i2l, 1) := by decide +kernel
theorem dX7_chance_141 : decode cX7_chance 141 = .ok (.goto 8, 3) := by decide +kernel
theorem dX7_chance_144 : decode cX7_chance 144 = .ok (.bipush 10, 2) := by decide +kernel
theorem dX7_chance_146 : decode cX7_chance 146 = .ok (.iload_n 2, 1) := by decide +kernel
theorem dX7_chance_147 : decode cX7_chance 147 = .ok (.isub, 1) := by decide +kernel
theorem dX7_chance_148 : decode cX7_chance 148 = .ok (.i2l, 1) := by decide +kernel
theorem dX7_chance_149 : decode cX7_chance 149 = .ok (.lmul, 1) := by decide +kernel
theorem dX7_chance_150 : decode cX7_chance 150 = .ok (.lstore 9, 2) := by decide +kernel
theorem dX7_chance_152 : decode cX7_chance 152 = .ok (.iinc 11 1, 3) := by decide +kernel
theorem dX7_chance_155 : decode cX7_chance 155 = .ok (.goto (-47), 3) := by decide +kernel
theorem dX7_chance_158 : decode cX7_chance 158 = .ok (.aload_n 0, 1) := by decide +kernel
theorem dX7_chance_159 : decode cX7_chance 159 = .ok (.iload 8, 2) := by decide +kernel
theorem dX7_chance_161 : decode cX7_chance 161 = .ok (.putfield 147, 3) := by decide +kernel
theorem dX7_chance_164 : decode cX7_chance 164 = .ok (.lload 4, 2) := by decide +kernel
theorem dX7_chance_166 : decode cX7_chance 166 = .ok (.aload_n 0, 1) := by decide +kernel
theorem dX7_chance_167 : decode cX7_chance 167 = .ok (.iload_n 1, 1) := by decide +kernel
theorem dX7_chance_168 : decode cX7_chance 168 = .ok (.invokevirtual 186, 3) := by decide +kernel
theorem dX7_chance_171 : decode cX7_chance 171 = .ok (.ifCond .eq 8, 3) := by decide +kernel
theorem dX7_chance_174 : decode cX7_chance 174 = .ok (.lload 9, 2) := by decide +kernel
theorem dX7_chance_176 : decode cX7_chance 176 = .ok (.goto 4, 3) := by decide +kernel
theorem dX7_chance_179 : decode cX7_chance 179 = .ok (.lconst 0, 1) := by decide +kernel
theorem dX7_chance_180 : decode cX7_chance 180 = .ok (.ladd, 1) := by decide +kernel
theorem dX7_chance_181 : decode cX7_chance 181 = .ok (.lstore 4, 2) := by decide +kernel
theorem dX7_chance_183 : decode cX7_chance 183 = .ok (.iinc 8 1, 3) := by decide +kernel
theorem dX7_chance_186 : decode cX7_chance 186 = .ok (.goto (-104), 3) := by decide +kernel
theorem dX7_chance_189 : decode cX7_chance 189 = .ok (.lload 4, 2) := by decide +kernel
theorem dX7_chance_191 : decode cX7_chance 191 = .ok (.lload 6, 2) := by decide +kernel
theorem dX7_chance_193 : decode cX7_chance 193 = .ok (.invokestatic 262, 3) := by decide +kernel
theorem dX7_chance_196 : decode cX7_chance 196 = .ok (.lstore 8, 2) := by decide +kernel
theorem dX7_chance_198 : decode cX7_chance 198 = .ok (.iload_n 3, 1) := by decide +kernel
theorem dX7_chance_199 : decode cX7_chance 199 = .ok (.ifCond .eq 11, 3) := by decide +kernel
theorem dX7_chance_202 : decode cX7_chance 202 = .ok (.lload 4, 2) := by decide +kernel
theorem dX7_chance_204 : decode cX7_chance 204 = .ok (.lload 8, 2) := by decide +kernel
theorem dX7_chance_206 : decode cX7_chance 206 = .ok (.ldiv, 1) := by decide +kernel
theorem dX7_chance_207 : decode cX7_chance 207 = .ok (.goto 8, 3) := by decide +kernel
theorem dX7_chance_210 : decode cX7_chance 210 = .ok (.lload 6, 2) := by decide +kernel
theorem dX7_chance_212 : decode cX7_chance 212 = .ok (.lload 8, 2) := by decide +kernel
theorem dX7_chance_214 : decode cX7_chance 214 = .ok (.ldiv, 1) := by decide +kernel
theorem dX7_chance_215 : decode cX7_chance 215 = .ok (.lreturn, 1) := by decide +kernel
set_option maxRecDepth 20000 in
theorem ggX7_meter_X7_in : GoodIn wsX7_meter wsX7_in := goodIn_r _ [10] (by decide +kernel) (by decide +kernel)
set_option maxRecDepth 20000 in
theorem gX7_meter_X7_in : GoodIn wsX7_meter (va_wsS RX7 78 yX7_in wsX7_in) := goodIn_app (goodIn_of _ (by decide +kernel)) ggX7_meter_X7_in
theorem dX7_meter_0 : decode cX7_meter 0 = .ok (.aload_n 0, 1) := by decide +kernel
theorem dX7_meter_1 : decode cX7_meter 1 = .ok (.iconst 0, 1) := by decide +kernel
theorem dX7_meter_2 : decode cX7_meter 2 = .ok (.putfield 71, 3) := by decide +kernel
theorem dX7_meter_5 : decode cX7_meter 5 = .ok (.iload_n 1, 1) := by decide +kernel
theorem dX7_meter_6 : decode cX7_meter 6 = .ok (.i2l, 1) := by decide +kernel
theorem dX7_meter_7 : decode cX7_meter 7 = .ok (.lconst 0, 1) := by decide +kernel
theorem dX7_meter_8 : decode cX7_meter 8 = .ok (.ldc2_w 266, 3) := by decide +kernel
theorem dX7_meter_11 : decode cX7_meter 11 = .ok (.invokestatic 78, 3) := by decide +kernel
theorem dX7_meter_14 : decode cX7_meter 14 = .ok (.ifCond .eq 15, 3) := by decide +kernel
theorem dX7_meter_17 : decode cX7_meter 17 = .ok (.iload_n 2, 1) := by decide +kernel
theorem dX7_meter_18 : decode cX7_meter 18 = .ok (.i2l, 1) := by decide +kernel
theorem dX7_meter_19 : decode cX7_meter 19 = .ok (.lconst 0, 1) := by decide +kernel
theorem dX7_meter_20 : decode cX7_meter 20 = .ok (.ldc2_w 268, 3) := by decide +kernel
theorem dX7_meter_23 : decode cX7_meter 23 = .ok (.invokestatic 78, 3) := by decide +kernel
theorem dX7_meter_26 : decode cX7_meter 26 = .ok (.ifCond .ne 6, 3) := by decide +kernel
theorem dX7_meter_29 : decode cX7_meter 29 = .ok (.bipush (-2), 2) := by decide +kernel
theorem dX7_meter_31 : decode cX7_meter 31 = .ok (.ireturn, 1) := by decide +kernel
theorem dX7_meter_32 : decode cX7_meter 32 = .ok (.aload_n 0, 1) := by decide +kernel
theorem dX7_meter_33 : decode cX7_meter 33 = .ok (.getfield 198, 3) := by decide +kernel
theorem dX7_meter_36 : decode cX7_meter 36 = .ok (.bipush 6, 2) := by decide +kernel
theorem dX7_meter_38 : decode cX7_meter 38 = .ok (.if_icmp .ne 6, 3) := by decide +kernel
theorem dX7_meter_41 : decode cX7_meter 41 = .ok (.bipush (-4), 2) := by decide +kernel
theorem dX7_meter_43 : decode cX7_meter 43 = .ok (.ireturn, 1) := by decide +kernel
theorem dX7_meter_44 : decode cX7_meter 44 = .ok (.aload_n 0, 1) := by decide +kernel
theorem dX7_meter_45 : decode cX7_meter 45 = .ok (.getfield 50, 3) := by decide +kernel
theorem dX7_meter_48 : decode cX7_meter 48 = .ok (.aload_n 0, 1) := by decide +kernel
theorem dX7_meter_49 : decode cX7_meter 49 = .ok (.getfield 198, 3) := by decide +kernel
theorem dX7_meter_52 : decode cX7_meter 52 = .ok (.iload_n 1, 1) := by decide +kernel
theorem dX7_meter_53 : decode cX7_meter 53 = .ok (.iastore, 1) := by decide +kernel
theorem dX7_meter_54 : decode cX7_meter 54 = .ok (.aload_n 0, 1) := by decide +kernel
theorem dX7_meter_55 : decode cX7_meter 55 = .ok (.getfield 53, 3) := by decide +kernel
theorem dX7_meter_58 : decode cX7_meter 58 = .ok (.aload_n 0, 1) := by decide +kernel
theorem dX7_meter_59 : decode cX7_meter 59 = .ok (.getfield 198, 3) := by decide +kernel
theorem dX7_meter_62 : decode cX7_meter 62 = .ok (.iload_n 2, 1) := by decide +kernel
theorem dX7_meter_63 : decode cX7_meter 63 = .ok (.iastore, 1) := by decide +kernel
theorem dX7_meter_64 : decode cX7_meter 64 = .ok (.aload_n 0, 1) := by decide +kernel
theorem dX7_meter_65 : decode cX7_meter 65 = .ok (.dup, 1) := by decide +kernel
theorem dX7_meter_66 : decode cX7_meter 66 = .ok (.getfield 198, 3) := by decide +kernel
theorem dX7_meter_69 : decode cX7_meter 69 = .ok (.iconst 1, 1) := by decide +kernel
theorem dX7_meter_70 : decode cX7_meter 70 = .ok (.iadd, 1) := by decide +kernel
theorem dX7_meter_71 : decode cX7_meter 71 = .ok (.putfield 198, 3) := by decide +kernel
theorem dX7_meter_74 : decode cX7_meter 74 = .ok (.aload_n 0, 1) := by decide +kernel
theorem dX7_meter_75 : decode cX7_meter 75 = .ok (.getfield 198, 3) := by decide +kernel
theorem dX7_meter_78 : decode cX7_meter 78 = .ok (.ireturn, 1) := by decide +kernel
theorem dX7_unmeter_0 : decode cX7_unmeter 0 = .ok (.aload_n 0, 1) := by decide +kernel
theorem dX7_unmeter_1 : decode cX7_unmeter 1 = .ok (.iconst 0, 1) := by decide +kernel
theorem dX7_unmeter_2 : decode cX7_unmeter 2 = .ok (.putfield 71, 3) := by decide +kernel
theorem dX7_unmeter_5 : decode cX7_unmeter 5 = .ok (.aload_n 0, 1) := by decide +kernel
theorem dX7_unmeter_6 : decode cX7_unmeter 6 = .ok (.getfield 198, 3) := by decide +kernel
theorem dX7_unmeter_9 : decode cX7_unmeter 9 = .ok (.istore_n 1, 1) := by decide +kernel
theorem dX7_unmeter_10 : decode cX7_unmeter 10 = .ok (.aload_n 0, 1) := by decide +kernel
theorem dX7_unmeter_11 : decode cX7_unmeter 11 = .ok (.iconst 0, 1) := by decide +kernel
theorem dX7_unmeter_12 : decode cX7_unmeter 12 = .ok (.putfield 198, 3) := by decide +kernel
theorem dX7_unmeter_15 : decode cX7_unmeter 15 = .ok (.iload_n 1, 1) := by decide +kernel
theorem dX7_unmeter_16 : decode cX7_unmeter 16 = .ok (.ireturn, 1) := by decide +kernel
set_option maxRecDepth 20000 in
theorem ggX7_came_X7_begin : GoodIn wsX7_came wsX7_begin := goodIn_r _ [11, 2, 12, 13, 14, 15, 3, 16, 17, 18, 19, 20, 83, 84, 85, 86, 87, 88, 89, 90, 91, 92, 93, 94, 95, 96, 97, 98, 99, 100, 101, 102, 103, 104, 105, 106, 107, 108, 109, 110, 111, 112, 113, 114, 115, 116, 117, 118, 119, 120, 121, 122] (by decide +kernel) (by decide +kernel)
set_option maxRecDepth 20000 in
theorem gX7_came_X7_begin : GoodIn wsX7_came (wsV RX7 195 RX7 yX7_begin wsX7_begin) := goodIn_app (goodIn_of _ (by decide +kernel)) ggX7_came_X7_begin
set_option maxRecDepth 20000 in
theorem ggX7_came_X7_allBy : GoodIn wsX7_came wsX7_allBy := goodIn_r _ [24, 2, 12, 83, 84, 85, 86, 87, 88, 89, 90, 91, 92, 93, 94, 95, 96, 97, 98, 99, 100, 101, 102, 103, 104, 105, 106, 107, 108, 109, 110, 111, 112, 113, 114, 115, 116, 117, 118, 119, 120, 121, 122] (by decide +kernel) (by decide +kernel)
set_option maxRecDepth 20000 in
theorem gX7_came_X7_allBy : GoodIn wsX7_came (wsV RX7 231 RX7 yX7_allBy wsX7_allBy) := goodIn_app (goodIn_of _ (by decide +kernel)) ggX7_came_X7_allBy
set_option maxRecDepth 20000 in
theorem ggX7_came_X7_echo : GoodIn wsX7_came wsX7_echo := goodIn_r _ [28, 17, 29, 30, 31, 10, 32, 3, 33, 34, 35, 36, 37, 18, 12, 38, 39, 40, 41, 42, 43, 44, 15, 83, 84, 85, 86, 87, 88, 89, 90, 91, 92, 93, 94, 95, 96, 97, 98, 99, 100, 101, 102, 103, 104, 105, 106, 107, 108, 109, 110, 111, 112, 113, 114, 115, 116, 117, 118, 119, 120, 121, 122] (by decide +kernel) (by decide +kernel)
set_option maxRecDepth 20000 in
theorem gX7_came_X7_echo : GoodIn wsX7_came (wsV RX7 170 RX7 yX7_echo wsX7_echo) := goodIn_app (goodIn_of _ (by decide +kernel)) ggX7_came_X7_echo
set_option maxRecDepth 20000 in
theorem ggX7_came_X7_in : GoodIn wsX7_came wsX7_in := goodIn_r _ [47] (by decide +kernel) (by decide +kernel)
set_option maxRecDepth 20000 in
theorem gX7_came_X7_in : GoodIn wsX7_came (va_wsS RX7 78 yX7_in wsX7_in) := goodIn_app (goodIn_of _ (by decide +kernel)) ggX7_came_X7_in
set_option maxRecDepth 20000 in
theorem ggX7_came_X7_go : GoodIn wsX7_came wsX7_go := goodIn_r _ [51, 3, 52, 12, 15, 53, 54, 55, 10, 56, 20, 25, 26, 27, 28, 17, 29, 30, 31, 32, 33, 34, 35, 36, 37, 18, 38, 39, 40, 41, 42, 43, 44, 57, 58, 59, 60, 61, 62, 63, 64, 65, 66, 67, 68, 69, 70, 71, 72, 73, 74, 75, 76, 77, 78, 79, 80, 81, 82, 83, 84, 85, 86, 87, 88, 89, 90, 91, 92, 93, 94, 95, 96, 97, 98, 99, 100, 101, 102, 103, 104, 105, 106, 107, 108, 109, 110, 111, 112, 113, 114, 115, 116, 117, 118, 119, 120, 121, 122] (by decide +kernel) (by decide +kernel)
set_option maxRecDepth 20000 in
theorem gX7_came_X7_go : GoodIn wsX7_came (wsV RX7 213 RX7 yX7_go wsX7_go) := goodIn_app (goodIn_of _ (by decide +kernel)) ggX7_came_X7_go
theorem dX7_came_0 : decode cX7_came 0 = .ok (.aload_n 0, 1) := by decide +kernel
theorem dX7_came_1 : decode cX7_came 1 = .ok (.iconst 0, 1) := by decide +kernel
theorem dX7_came_2 : decode cX7_came 2 = .ok (.putfield 71, 3) := by decide +kernel
theorem dX7_came_5 : decode cX7_came 5 = .ok (.iconst 0, 1) := by decide +kernel
theorem dX7_came_6 : decode cX7_came 6 = .ok (.istore_n 1, 1) := by decide +kernel
theorem dX7_came_7 : decode cX7_came 7 = .ok (.iconst 0, 1) := by decide +kernel
theorem dX7_came_8 : decode cX7_came 8 = .ok (.istore_n 2, 1) := by decide +kernel
theorem dX7_came_9 : decode cX7_came 9 = .ok (.iload_n 2, 1) := by decide +kernel
theorem dX7_came_10 : decode cX7_came 10 = .ok (.aload_n 0, 1) := by decide +kernel
theorem dX7_came_11 : decode cX7_came 11 = .ok (.getfield 75, 3) := by decide +kernel
theorem dX7_came_14 : decode cX7_came 14 = .ok (.if_icmp .gt 131, 3) := by decide +kernel
theorem dX7_came_17 : decode cX7_came 17 = .ok (.aload_n 0, 1) := by decide +kernel
theorem dX7_came_18 : decode cX7_came 18 = .ok (.invokevirtual 195, 3) := by decide +kernel
theorem dX7_came_21 : decode cX7_came 21 = .ok (.aload_n 0, 1) := by decide +kernel
theorem dX7_came_22 : decode cX7_came 22 = .ok (.iconst 1, 1) := by decide +kernel
theorem dX7_came_23 : decode cX7_came 23 = .ok (.invokevirtual 231, 3) := by decide +kernel
theorem dX7_came_26 : decode cX7_came 26 = .ok (.aload_n 0, 1) := by decide +kernel
theorem dX7_came_27 : decode cX7_came 27 = .ok (.iload_n 2, 1) := by decide +kernel
theorem dX7_came_28 : decode cX7_came 28 = .ok (.putfield 141, 3) := by decide +kernel
theorem dX7_came_31 : decode cX7_came 31 = .ok (.iconst 1, 1) := by decide +kernel
theorem dX7_came_32 : decode cX7_came 32 = .ok (.istore_n 3, 1) := by decide +kernel
theorem dX7_came_33 : decode cX7_came 33 = .ok (.iconst 0, 1) := by decide +kernel
theorem dX7_came_34 : decode cX7_came 34 = .ok (.istore 4, 2) := by decide +kernel
theorem dX7_came_36 : decode cX7_came 36 = .ok (.iload 4, 2) := by decide +kernel
theorem dX7_came_38 : decode cX7_came 38 = .ok (.bipush 40, 2) := by decide +kernel
theorem dX7_came_40 : decode cX7_came 40 = .ok (.if_icmp .gt 85, 3) := by decide +kernel
theorem dX7_came_43 : decode cX7_came 43 = .ok (.iconst 0, 1) := by decide +kernel
theorem dX7_came_44 : decode cX7_came 44 = .ok (.istore 5, 2) := by decide +kernel
theorem dX7_came_46 : decode cX7_came 46 = .ok (.iload 5, 2) := by decide +kernel
theorem dX7_came_48 : decode cX7_came 48 = .ok (.aload_n 0, 1) := by decide +kernel
theorem dX7_came_49 : decode cX7_came 49 = .ok (.getfield 198, 3) := by decide +kernel
theorem dX7_came_52 : decode cX7_came 52 = .ok (.if_icmp .ge 62, 3) := by decide +kernel
theorem dX7_came_55 : decode cX7_came 55 = .ok (.iload_n 3, 1) := by decide +kernel
theorem dX7_came_56 : decode cX7_came 56 = .ok (.ifCond .eq 50, 3) := by decide +kernel
theorem dX7_came_59 : decode cX7_came 59 = .ok (.aload_n 0, 1) := by decide +kernel
theorem dX7_came_60 : decode cX7_came 60 = .ok (.getfield 50, 3) := by decide +kernel
theorem dX7_came_63 : decode cX7_came 63 = .ok (.iload 5, 2) := by decide +kernel
theorem dX7_came_65 : decode cX7_came 65 = .ok (.iaload, 1) := by decide +kernel
theorem dX7_came_66 : decode cX7_came 66 = .ok (.iload 4, 2) := by decide +kernel
theorem dX7_came_68 : decode cX7_came 68 = .ok (.if_icmp .ne 34, 3) := by decide +kernel
theorem dX7_came_71 : decode cX7_came 71 = .ok (.aload_n 0, 1) := by decide +kernel
theorem dX7_came_72 : decode cX7_came 72 = .ok (.invokevirtual 170, 3) := by decide +kernel
theorem dX7_came_75 : decode cX7_came 75 = .ok (.i2l, 1) := by decide +kernel
theorem dX7_came_76 : decode cX7_came 76 = .ok (.aload_n 0, 1) := by decide +kernel
theorem dX7_came_77 : decode cX7_came 77 = .ok (.getfield 53, 3) := by decide +kernel
theorem dX7_came_80 : decode cX7_came 80 = .ok (.iload 5, 2) := by decide +kernel
theorem dX7_came_82 : decode cX7_came 82 = .ok (.iaload, 1) := by decide +kernel
theorem dX7_came_83 : decode cX7_came 83 = .ok (.iconst 3, 1) := by decide +kernel
theorem dX7_came_84 : decode cX7_came 84 = .ok (.isub, 1) := by decide +kernel
theorem dX7_came_85 : decode cX7_came 85 = .ok (.i2l, 1) := by decide +kernel
theorem dX7_came_86 : decode cX7_came 86 = .ok (.aload_n 0, 1) := by decide +kernel
theorem dX7_came_87 : decode cX7_came 87 = .ok (.getfield 53, 3) := by decide +kernel
theorem dX7_came_90 : decode cX7_came 90 = .ok (.iload 5, 2) := by decide +kernel
theorem dX7_came_92 : decode cX7_came 92 = .ok (.iaload, 1) := by decide +kernel
theorem dX7_came_93 : decode cX7_came 93 = .ok (.iconst 3, 1) := by decide +kernel
theorem dX7_came_94 : decode cX7_came 94 = .ok (.iadd, 1) := by decide +kernel
theorem dX7_came_95 : decode cX7_came 95 = .ok (.i2l, 1) := by decide +kernel
theorem dX7_came_96 : decode cX7_came 96 = .ok (.invokestatic 78, 3) := by decide +kernel
theorem dX7_came_99 : decode cX7_came 99 = .ok (.ifCond .eq 7, 3) := by decide +kernel
theorem dX7_came_102 : decode cX7_came 102 = .ok (.iconst 1, 1) := by decide +kernel
theorem dX7_came_103 : decode cX7_came 103 = .ok (.goto 4, 3) := by decide +kernel
theorem dX7_came_106 : decode cX7_came 106 = .ok (.iconst 0, 1) := by decide +kernel
theorem dX7_came_107 : decode cX7_came 107 = .ok (.istore_n 3, 1) := by decide +kernel
theorem dX7_came_108 : decode cX7_came 108 = .ok (.iinc 5 1, 3) := by decide +kernel
theorem dX7_came_111 : decode cX7_came 111 = .ok (.goto (-65), 3) := by decide +kernel
theorem dX7_came_114 : decode cX7_came 114 = .ok (.aload_n 0, 1) := by decide +kernel
theorem dX7_came_115 : decode cX7_came 115 = .ok (.invokevirtual 213, 3) := by decide +kernel
theorem dX7_came_118 : decode cX7_came 118 = .ok (.pop, 1) := by decide +kernel
theorem dX7_came_119 : decode cX7_came 119 = .ok (.iinc 4 1, 3) := by decide +kernel
theorem dX7_came_122 : decode cX7_came 122 = .ok (.goto (-86), 3) := by decide +kernel
theorem dX7_came_125 : decode cX7_came 125 = .ok (.iload_n 1, 1) := by decide +kernel
theorem dX7_came_126 : decode cX7_came 126 = .ok (.iload_n 3, 1) := by decide +kernel
theorem dX7_came_127 : decode cX7_came 127 = .ok (.ifCond .eq 9, 3) := by decide +kernel
theorem dX7_came_130 : decode cX7_came 130 = .ok (.iconst 1, 1) := by decide +kernel
theorem dX7_came_131 : decode cX7_came 131 = .ok (.iload_n 2, 1) := by decide +kernel
theorem dX7_came_132 : decode cX7_came 132 = .ok (.ishl, 1) := by decide +kernel
theorem dX7_came_133 : decode cX7_came 133 = .ok (.goto 4, 3) := by decide +kernel
theorem dX7_came_136 : decode cX7_came 136 = .ok (.iconst 0, 1) := by decide +kernel
theorem dX7_came_137 : decode cX7_came 137 = .ok (.ior, 1) := by decide +kernel
theorem dX7_came_138 : decode cX7_came 138 = .ok (.istore_n 1, 1) := by decide +kernel
theorem dX7_came_139 : decode cX7_came 139 = .ok (.iinc 2 1, 3) := by decide +kernel
theorem dX7_came_142 : decode cX7_came 142 = .ok (.goto (-133), 3) := by decide +kernel
theorem dX7_came_145 : decode cX7_came 145 = .ok (.iload_n 1, 1) := by decide +kernel
theorem dX7_came_146 : decode cX7_came 146 = .ok (.ireturn, 1) := by decide +kernel
set_option maxRecDepth 20000 in
theorem ggX7_keep_X7_in : GoodIn wsX7_keep wsX7_in := goodIn_r _ [10] (by decide +kernel) (by decide +kernel)
set_option maxRecDepth 20000 in
theorem gX7_keep_X7_in : GoodIn wsX7_keep (va_wsS RX7 78 yX7_in wsX7_in) := goodIn_app (goodIn_of _ (by decide +kernel)) ggX7_keep_X7_in
set_option maxRecDepth 20000 in
theorem ggX7_keep_X7_layPage : GoodIn wsX7_keep wsX7_layPage := goodIn_r _ [14, 15, 16, 17, 18, 19, 6, 20, 21, 22, 23, 24, 25, 26, 27, 28, 29, 30, 31, 32, 33, 34, 35, 36, 37, 38, 39, 40, 41, 42, 43, 44, 45, 46, 47, 48, 49, 50, 51, 52, 53, 54, 55, 56, 57, 58, 59, 60] (by decide +kernel) (by decide +kernel)
set_option maxRecDepth 20000 in
theorem gX7_keep_X7_layPage : GoodIn wsX7_keep (wsV RX7 206 RX7 yX7_layPage wsX7_layPage) := goodIn_app (goodIn_of _ (by decide +kernel)) ggX7_keep_X7_layPage
theorem dX7_keep_0 : decode cX7_keep 0 = .ok (.aload_n 0, 1) := by decide +kernel
theorem dX7_keep_1 : decode cX7_keep 1 = .ok (.iconst 0, 1) := by decide +kernel
theorem dX7_keep_2 : decode cX7_keep 2 = .ok (.putfield 71, 3) := by decide +kernel
theorem dX7_keep_5 : decode cX7_keep 5 = .ok (.iload_n 1, 1) := by decide +kernel
theorem dX7_keep_6 : decode cX7_keep 6 = .ok (.i2l, 1) := by decide +kernel
theorem dX7_keep_7 : decode cX7_keep 7 = .ok (.lconst 0, 1) := by decide +kernel
theorem dX7_keep_8 : decode cX7_keep 8 = .ok (.lconst 1, 1) := by decide +kernel
theorem dX7_keep_9 : decode cX7_keep 9 = .ok (.invokestatic 78, 3) := by decide +kernel
theorem dX7_keep_12 : decode cX7_keep 12 = .ok (.ifCond .ne 5, 3) := by decide +kernel
theorem dX7_keep_15 : decode cX7_keep 15 = .ok (.iconst (-1), 1) := by decide +kernel
theorem dX7_keep_16 : decode cX7_keep 16 = .ok (.ireturn, 1) := by decide +kernel
theorem dX7_keep_17 : decode cX7_keep 17 = .ok (.aload_n 0, 1) := by decide +kernel
theorem dX7_keep_18 : decode cX7_keep 18 = .ok (.getfield 46, 3) := by decide +kernel
theorem dX7_keep_21 : decode cX7_keep 21 = .ok (.iload_n 1, 1) := by decide +kernel
theorem dX7_keep_22 : decode cX7_keep 22 = .ok (.iconst 1, 1) := by decide +kernel
theorem dX7_keep_23 : decode cX7_keep 23 = .ok (.bastore, 1) := by decide +kernel
theorem dX7_keep_24 : decode cX7_keep 24 = .ok (.aload_n 0, 1) := by decide +kernel
theorem dX7_keep_25 : decode cX7_keep 25 = .ok (.aload_n 0, 1) := by decide +kernel
theorem dX7_keep_26 : decode cX7_keep 26 = .ok (.getfield 43, 3) := by decide +kernel
theorem dX7_keep_29 : decode cX7_keep 29 = .ok (.bipush 45, 2) := by decide +kernel
theorem dX7_keep_31 : decode cX7_keep 31 = .ok (.iload_n 1, 1) := by decide +kernel
theorem dX7_keep_32 : decode cX7_keep 32 = .ok (.imul, 1) := by decide +kernel
theorem dX7_keep_33 : decode cX7_keep 33 = .ok (.invokevirtual 206, 3) := by decide +kernel
theorem dX7_keep_36 : decode cX7_keep 36 = .ok (.aload_n 0, 1) := by decide +kernel
theorem dX7_keep_37 : decode cX7_keep 37 = .ok (.getfield 43, 3) := by decide +kernel
theorem dX7_keep_40 : decode cX7_keep 40 = .ok (.bipush 45, 2) := by decide +kernel
theorem dX7_keep_42 : decode cX7_keep 42 = .ok (.iload_n 1, 1) := by decide +kernel
theorem dX7_keep_43 : decode cX7_keep 43 = .ok (.imul, 1) := by decide +kernel
theorem dX7_keep_44 : decode cX7_keep 44 = .ok (.bipush 42, 2) := by decide +kernel
theorem dX7_keep_46 : decode cX7_keep 46 = .ok (.iadd, 1) := by decide +kernel
theorem dX7_keep_47 : decode cX7_keep 47 = .ok (.aload_n 0, 1) := by decide +kernel
theorem dX7_keep_48 : decode cX7_keep 48 = .ok (.getfield 125, 3) := by decide +kernel
theorem dX7_keep_51 : decode cX7_keep 51 = .ok (.iastore, 1) := by decide +kernel
theorem dX7_keep_52 : decode cX7_keep 52 = .ok (.aload_n 0, 1) := by decide +kernel
theorem dX7_keep_53 : decode cX7_keep 53 = .ok (.getfield 43, 3) := by decide +kernel
theorem dX7_keep_56 : decode cX7_keep 56 = .ok (.bipush 45, 2) := by decide +kernel
theorem dX7_keep_58 : decode cX7_keep 58 = .ok (.iload_n 1, 1) := by decide +kernel
theorem dX7_keep_59 : decode cX7_keep 59 = .ok (.imul, 1) := by decide +kernel
theorem dX7_keep_60 : decode cX7_keep 60 = .ok (.bipush 43, 2) := by decide +kernel
theorem dX7_keep_62 : decode cX7_keep 62 = .ok (.iadd, 1) := by decide +kernel
theorem dX7_keep_63 : decode cX7_keep 63 = .ok (.aload_n 0, 1) := by decide +kernel
theorem dX7_keep_64 : decode cX7_keep 64 = .ok (.getfield 131, 3) := by decide +kernel
theorem dX7_keep_67 : decode cX7_keep 67 = .ok (.ifCond .eq 7, 3) := by decide +kernel
theorem dX7_keep_70 : decode cX7_keep 70 = .ok (.iconst 1, 1) := by decide +kernel
theorem dX7_keep_71 : decode cX7_keep 71 = .ok (.goto 4, 3) := by decide +kernel
theorem dX7_keep_74 : decode cX7_keep 74 = .ok (.iconst 0, 1) := by decide +kernel
theorem dX7_keep_75 : decode cX7_keep 75 = .ok (.iastore, 1) := by decide +kernel
theorem dX7_keep_76 : decode cX7_keep 76 = .ok (.aload_n 0, 1) := by decide +kernel
theorem dX7_keep_77 : decode cX7_keep 77 = .ok (.getfield 75, 3) := by decide +kernel
theorem dX7_keep_80 : decode cX7_keep 80 = .ok (.ireturn, 1) := by decide +kernel
set_option maxRecDepth 20000 in
theorem ggX7_again_X7_in : GoodIn wsX7_again wsX7_in := goodIn_r _ [11] (by decide +kernel) (by decide +kernel)
set_option maxRecDepth 20000 in
theorem gX7_again_X7_in : GoodIn wsX7_again (va_wsS RX7 78 yX7_in wsX7_in) := goodIn_app (goodIn_of _ (by decide +kernel)) ggX7_again_X7_in
set_option maxRecDepth 20000 in
theorem ggX7_again_X7_takePage : GoodIn wsX7_again wsX7_takePage := goodIn_r _ [15, 16, 17, 18, 19, 20, 7, 21, 22, 23, 24, 25, 26, 27, 28, 29, 30, 31, 32, 33, 34, 35, 36, 37, 38, 39, 40, 41, 42, 43, 44, 45, 46, 47, 48, 49, 50, 51, 52, 53, 54, 55, 56, 57, 58, 59, 60, 61] (by decide +kernel) (by decide +kernel)
set_option maxRecDepth 20000 in
theorem gX7_again_X7_takePage : GoodIn wsX7_again (wsV RX7 226 RX7 yX7_takePage wsX7_takePage) := goodIn_app (goodIn_of _ (by decide +kernel)) ggX7_again_X7_takePage
theorem dX7_again_0 : decode cX7_again 0 = .ok (.aload_n 0, 1) := by decide +kernel
theorem dX7_again_1 : decode cX7_again 1 = .ok (.iconst 0, 1) := by decide +kernel
theorem dX7_again_2 : decode cX7_again 2 = .ok (.putfield 71, 3) := by decide +kernel
theorem dX7_again_5 : decode cX7_again 5 = .ok (.iload_n 1, 1) := by decide +kernel
theorem dX7_again_6 : decode cX7_again 6 = .ok (.i2l, 1) := by decide +kernel
theorem dX7_again_7 : decode cX7_again 7 = .ok (.lconst 0, 1) := by decide +kernel
theorem dX7_again_8 : decode cX7_again 8 = .ok (.lconst 1, 1) := by decide +kernel
theorem dX7_again_9 : decode cX7_again 9 = .ok (.invokestatic 78, 3) := by decide +kernel
theorem dX7_again_12 : decode cX7_again 12 = .ok (.ifCond .ne 5, 3) := by decide +kernel
theorem dX7_again_15 : decode cX7_again 15 = .ok (.iconst (-1), 1) := by decide +kernel
theorem dX7_again_16 : decode cX7_again 16 = .ok (.ireturn, 1) := by decide +kernel
theorem dX7_again_17 : decode cX7_again 17 = .ok (.aload_n 0, 1) := by decide +kernel
theorem dX7_again_18 : decode cX7_again 18 = .ok (.getfield 46, 3) := by decide +kernel
theorem dX7_again_21 : decode cX7_again 21 = .ok (.iload_n 1, 1) := by decide +kernel
theorem dX7_again_22 : decode cX7_again 22 = .ok (.baload, 1) := by decide +kernel
theorem dX7_again_23 : decode cX7_again 23 = .ok (.ifCond .ne 6, 3) := by decide +kernel
theorem dX7_again_26 : decode cX7_again 26 = .ok (.bipush (-3), 2) := by decide +kernel
theorem dX7_again_28 : decode cX7_again 28 = .ok (.ireturn, 1) := by decide +kernel
theorem dX7_again_29 : decode cX7_again 29 = .ok (.aload_n 0, 1) := by decide +kernel
theorem dX7_again_30 : decode cX7_again 30 = .ok (.aload_n 0, 1) := by decide +kernel
theorem dX7_again_31 : decode cX7_again 31 = .ok (.getfield 43, 3) := by decide +kernel
theorem dX7_again_34 : decode cX7_again 34 = .ok (.bipush 45, 2) := by decide +kernel
theorem dX7_again_36 : decode cX7_again 36 = .ok (.iload_n 1, 1) := by decide +kernel
theorem dX7_again_37 : decode cX7_again 37 = .ok (.imul, 1) := by decide +kernel
theorem dX7_again_38 : decode cX7_again 38 = .ok (.invokevirtual 226, 3) := by decide +kernel
theorem dX7_again_41 : decode cX7_again 41 = .ok (.aload_n 0, 1) := by decide +kernel
theorem dX7_again_42 : decode cX7_again 42 = .ok (.aload_n 0, 1) := by decide +kernel
theorem dX7_again_43 : decode cX7_again 43 = .ok (.getfield 43, 3) := by decide +kernel
theorem dX7_again_46 : decode cX7_again 46 = .ok (.bipush 45, 2) := by decide +kernel
theorem dX7_again_48 : decode cX7_again 48 = .ok (.iload_n 1, 1) := by decide +kernel
theorem dX7_again_49 : decode cX7_again 49 = .ok (.imul, 1) := by decide +kernel
theorem dX7_again_50 : decode cX7_again 50 = .ok (.bipush 42, 2) := by decide +kernel
theorem dX7_again_52 : decode cX7_again 52 = .ok (.iadd, 1) := by decide +kernel
theorem dX7_again_53 : decode cX7_again 53 = .ok (.iaload, 1) := by decide +kernel
theorem dX7_again_54 : decode cX7_again 54 = .ok (.putfield 125, 3) := by decide +kernel
theorem dX7_again_57 : decode cX7_again 57 = .ok (.aload_n 0, 1) := by decide +kernel
theorem dX7_again_58 : decode cX7_again 58 = .ok (.aload_n 0, 1) := by decide +kernel
theorem dX7_again_59 : decode cX7_again 59 = .ok (.getfield 43, 3) := by decide +kernel
theorem dX7_again_62 : decode cX7_again 62 = .ok (.bipush 45, 2) := by decide +kernel
theorem dX7_again_64 : decode cX7_again 64 = .ok (.iload_n 1, 1) := by decide +kernel
theorem dX7_again_65 : decode cX7_again 65 = .ok (.imul, 1) := by decide +kernel
theorem dX7_again_66 : decode cX7_again 66 = .ok (.bipush 43, 2) := by decide +kernel
theorem dX7_again_68 : decode cX7_again 68 = .ok (.iadd, 1) := by decide +kernel
theorem dX7_again_69 : decode cX7_again 69 = .ok (.iaload, 1) := by decide +kernel
theorem dX7_again_70 : decode cX7_again 70 = .ok (.iconst 1, 1) := by decide +kernel
theorem dX7_again_71 : decode cX7_again 71 = .ok (.if_icmp .ne 7, 3) := by decide +kernel
theorem dX7_again_74 : decode cX7_again 74 = .ok (.iconst 1, 1) := by decide +kernel
theorem dX7_again_75 : decode cX7_again 75 = .ok (.goto 4, 3) := by decide +kernel
theorem dX7_again_78 : decode cX7_again 78 = .ok (.iconst 0, 1) := by decide +kernel
theorem dX7_again_79 : decode cX7_again 79 = .ok (.putfield 131, 3) := by decide +kernel
theorem dX7_again_82 : decode cX7_again 82 = .ok (.aload_n 0, 1) := by decide +kernel
theorem dX7_again_83 : decode cX7_again 83 = .ok (.iconst 0, 1) := by decide +kernel
theorem dX7_again_84 : decode cX7_again 84 = .ok (.putfield 135, 3) := by decide +kernel
theorem dX7_again_87 : decode cX7_again 87 = .ok (.aload_n 0, 1) := by decide +kernel
theorem dX7_again_88 : decode cX7_again 88 = .ok (.getfield 75, 3) := by decide +kernel
theorem dX7_again_91 : decode cX7_again 91 = .ok (.ireturn, 1) := by decide +kernel
theorem dJ6_bitCount_0f7a4_0 : decode cJ6_bitCount_0f7a4 0 = .ok (.iload_n 0, 1) := by decide +kernel
theorem dJ6_bitCount_0f7a4_1 : decode cJ6_bitCount_0f7a4 1 = .ok (.iload_n 0, 1) := by decide +kernel
theorem dJ6_bitCount_0f7a4_2 : decode cJ6_bitCount_0f7a4 2 = .ok (.iconst 1, 1) := by decide +kernel
theorem dJ6_bitCount_0f7a4_3 : decode cJ6_bitCount_0f7a4 3 = .ok (.iushr, 1) := by decide +kernel
theorem dJ6_bitCount_0f7a4_4 : decode cJ6_bitCount_0f7a4 4 = .ok (.ldc_w 265, 3) := by decide +kernel
theorem dJ6_bitCount_0f7a4_7 : decode cJ6_bitCount_0f7a4 7 = .ok (.iand, 1) := by decide +kernel
theorem dJ6_bitCount_0f7a4_8 : decode cJ6_bitCount_0f7a4 8 = .ok (.isub, 1) := by decide +kernel
theorem dJ6_bitCount_0f7a4_9 : decode cJ6_bitCount_0f7a4 9 = .ok (.istore_n 0, 1) := by decide +kernel
theorem dJ6_bitCount_0f7a4_10 : decode cJ6_bitCount_0f7a4 10 = .ok (.iload_n 0, 1) := by decide +kernel
theorem dJ6_bitCount_0f7a4_11 : decode cJ6_bitCount_0f7a4 11 = .ok (.ldc_w 266, 3) := by decide +kernel
theorem dJ6_bitCount_0f7a4_14 : decode cJ6_bitCount_0f7a4 14 = .ok (.iand, 1) := by decide +kernel
theorem dJ6_bitCount_0f7a4_15 : decode cJ6_bitCount_0f7a4 15 = .ok (.iload_n 0, 1) := by decide +kernel
theorem dJ6_bitCount_0f7a4_16 : decode cJ6_bitCount_0f7a4 16 = .ok (.iconst 2, 1) := by decide +kernel
theorem dJ6_bitCount_0f7a4_17 : decode cJ6_bitCount_0f7a4 17 = .ok (.iushr, 1) := by decide +kernel
theorem dJ6_bitCount_0f7a4_18 : decode cJ6_bitCount_0f7a4 18 = .ok (.ldc_w 266, 3) := by decide +kernel
theorem dJ6_bitCount_0f7a4_21 : decode cJ6_bitCount_0f7a4 21 = .ok (.iand, 1) := by decide +kernel
theorem dJ6_bitCount_0f7a4_22 : decode cJ6_bitCount_0f7a4 22 = .ok (.iadd, 1) := by decide +kernel
theorem dJ6_bitCount_0f7a4_23 : decode cJ6_bitCount_0f7a4 23 = .ok (.istore_n 0, 1) := by decide +kernel
theorem dJ6_bitCount_0f7a4_24 : decode cJ6_bitCount_0f7a4 24 = .ok (.iload_n 0, 1) := by decide +kernel
theorem dJ6_bitCount_0f7a4_25 : decode cJ6_bitCount_0f7a4 25 = .ok (.iload_n 0, 1) := by decide +kernel
theorem dJ6_bitCount_0f7a4_26 : decode cJ6_bitCount_0f7a4 26 = .ok (.iconst 4, 1) := by decide +kernel
theorem dJ6_bitCount_0f7a4_27 : decode cJ6_bitCount_0f7a4 27 = .ok (.iushr, 1) := by decide +kernel
theorem dJ6_bitCount_0f7a4_28 : decode cJ6_bitCount_0f7a4 28 = .ok (.iadd, 1) := by decide +kernel
theorem dJ6_bitCount_0f7a4_29 : decode cJ6_bitCount_0f7a4 29 = .ok (.ldc_w 267, 3) := by decide +kernel
theorem dJ6_bitCount_0f7a4_32 : decode cJ6_bitCount_0f7a4 32 = .ok (.iand, 1) := by decide +kernel
theorem dJ6_bitCount_0f7a4_33 : decode cJ6_bitCount_0f7a4 33 = .ok (.istore_n 0, 1) := by decide +kernel
theorem dJ6_bitCount_0f7a4_34 : decode cJ6_bitCount_0f7a4 34 = .ok (.iload_n 0, 1) := by decide +kernel
theorem dJ6_bitCount_0f7a4_35 : decode cJ6_bitCount_0f7a4 35 = .ok (.iload_n 0, 1) := by decide +kernel
theorem dJ6_bitCount_0f7a4_36 : decode cJ6_bitCount_0f7a4 36 = .ok (.bipush 8, 2) := by decide +kernel
theorem dJ6_bitCount_0f7a4_38 : decode cJ6_bitCount_0f7a4 38 = .ok (.iushr, 1) := by decide +kernel
theorem dJ6_bitCount_0f7a4_39 : decode cJ6_bitCount_0f7a4 39 = .ok (.iadd, 1) := by decide +kernel
theorem dJ6_bitCount_0f7a4_40 : decode cJ6_bitCount_0f7a4 40 = .ok (.istore_n 0, 1) := by decide +kernel
theorem dJ6_bitCount_0f7a4_41 : decode cJ6_bitCount_0f7a4 41 = .ok (.iload_n 0, 1) := by decide +kernel
theorem dJ6_bitCount_0f7a4_42 : decode cJ6_bitCount_0f7a4 42 = .ok (.iload_n 0, 1) := by decide +kernel
theorem dJ6_bitCount_0f7a4_43 : decode cJ6_bitCount_0f7a4 43 = .ok (.bipush 16, 2) := by decide +kernel
theorem dJ6_bitCount_0f7a4_45 : decode cJ6_bitCount_0f7a4 45 = .ok (.iushr, 1) := by decide +kernel
theorem dJ6_bitCount_0f7a4_46 : decode cJ6_bitCount_0f7a4 46 = .ok (.iadd, 1) := by decide +kernel
theorem dJ6_bitCount_0f7a4_47 : decode cJ6_bitCount_0f7a4 47 = .ok (.istore_n 0, 1) := by decide +kernel
theorem dJ6_bitCount_0f7a4_48 : decode cJ6_bitCount_0f7a4 48 = .ok (.iload_n 0, 1) := by decide +kernel
theorem dJ6_bitCount_0f7a4_49 : decode cJ6_bitCount_0f7a4 49 = .ok (.bipush 63, 2) := by decide +kernel
theorem dJ6_bitCount_0f7a4_51 : decode cJ6_bitCount_0f7a4 51 = .ok (.iand, 1) := by decide +kernel
theorem dJ6_bitCount_0f7a4_52 : decode cJ6_bitCount_0f7a4 52 = .ok (.ireturn, 1) := by decide +kernel
theorem dJ9_abs_0f7a4_0 : decode cJ9_abs_0f7a4 0 = .ok (.iload_n 0, 1) := by decide +kernel
theorem dJ9_abs_0f7a4_1 : decode cJ9_abs_0f7a4 1 = .ok (.ifCond .ge 8, 3) := by decide +kernel
theorem dJ9_abs_0f7a4_4 : decode cJ9_abs_0f7a4 4 = .ok (.iload_n 0, 1) := by decide +kernel
theorem dJ9_abs_0f7a4_5 : decode cJ9_abs_0f7a4 5 = .ok (.ineg, 1) := by decide +kernel
theorem dJ9_abs_0f7a4_6 : decode cJ9_abs_0f7a4 6 = .ok (.goto 4, 3) := by decide +kernel
theorem dJ9_abs_0f7a4_9 : decode cJ9_abs_0f7a4 9 = .ok (.iload_n 0, 1) := by decide +kernel
theorem dJ9_abs_0f7a4_10 : decode cJ9_abs_0f7a4 10 = .ok (.ireturn, 1) := by decide +kernel
theorem dJ9_max_7cf53_0 : decode cJ9_max_7cf53 0 = .ok (.iload_n 0, 1) := by decide +kernel
theorem dJ9_max_7cf53_1 : decode cJ9_max_7cf53 1 = .ok (.iload_n 1, 1) := by decide +kernel
theorem dJ9_max_7cf53_2 : decode cJ9_max_7cf53 2 = .ok (.if_icmp .lt 7, 3) := by decide +kernel
theorem dJ9_max_7cf53_5 : decode cJ9_max_7cf53 5 = .ok (.iload_n 0, 1) := by decide +kernel
theorem dJ9_max_7cf53_6 : decode cJ9_max_7cf53 6 = .ok (.goto 4, 3) := by decide +kernel
theorem dJ9_max_7cf53_9 : decode cJ9_max_7cf53 9 = .ok (.iload_n 1, 1) := by decide +kernel
theorem dJ9_max_7cf53_10 : decode cJ9_max_7cf53 10 = .ok (.ireturn, 1) := by decide +kernel
theorem dJ9_max_f86c9_0 : decode cJ9_max_f86c9 0 = .ok (.lload_n 0, 1) := by decide +kernel
theorem dJ9_max_f86c9_1 : decode cJ9_max_f86c9 1 = .ok (.lload_n 2, 1) := by decide +kernel
theorem dJ9_max_f86c9_2 : decode cJ9_max_f86c9 2 = .ok (.lcmp, 1) := by decide +kernel
theorem dJ9_max_f86c9_3 : decode cJ9_max_f86c9 3 = .ok (.ifCond .lt 7, 3) := by decide +kernel
theorem dJ9_max_f86c9_6 : decode cJ9_max_f86c9 6 = .ok (.lload_n 0, 1) := by decide +kernel
theorem dJ9_max_f86c9_7 : decode cJ9_max_f86c9 7 = .ok (.goto 4, 3) := by decide +kernel
theorem dJ9_max_f86c9_10 : decode cJ9_max_f86c9 10 = .ok (.lload_n 2, 1) := by decide +kernel
theorem dJ9_max_f86c9_11 : decode cJ9_max_f86c9 11 = .ok (.lreturn, 1) := by decide +kernel
theorem dJ9_min_7cf53_0 : decode cJ9_min_7cf53 0 = .ok (.iload_n 0, 1) := by decide +kernel
theorem dJ9_min_7cf53_1 : decode cJ9_min_7cf53 1 = .ok (.iload_n 1, 1) := by decide +kernel
theorem dJ9_min_7cf53_2 : decode cJ9_min_7cf53 2 = .ok (.if_icmp .gt 7, 3) := by decide +kernel
theorem dJ9_min_7cf53_5 : decode cJ9_min_7cf53 5 = .ok (.iload_n 0, 1) := by decide +kernel
theorem dJ9_min_7cf53_6 : decode cJ9_min_7cf53 6 = .ok (.goto 4, 3) := by decide +kernel
theorem dJ9_min_7cf53_9 : decode cJ9_min_7cf53 9 = .ok (.iload_n 1, 1) := by decide +kernel
theorem dJ9_min_7cf53_10 : decode cJ9_min_7cf53 10 = .ok (.ireturn, 1) := by decide +kernel

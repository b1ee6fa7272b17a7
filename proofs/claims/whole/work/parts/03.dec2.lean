theorem dX6_chance_143 : decode cX6_chance 143 = .ok (.lload 4, 2) := by decide +kernel
theorem dX6_chance_145 : decode cX6_chance 145 = .ok (.lload 8, 2) := by decide +kernel
theorem dX6_chance_147 : decode cX6_chance 147 = .ok (.ldiv, 1) := by decide +kernel
theorem dX6_chance_148 : decode cX6_chance 148 = .ok (.goto 8, 3) := by decide +kernel
theorem dX6_chance_151 : decode cX6_chance 151 = .ok (.lload 6, 2) := by decide +kernel
theorem dX6_chance_153 : decode cX6_chance 153 = .ok (.lload 8, 2) := by decide +kernel
theorem dX6_chance_155 : decode cX6_chance 155 = .ok (.ldiv, 1) := by decide +kernel
theorem dX6_chance_156 : decode cX6_chance 156 = .ok (.lreturn, 1) := by decide +kernel
set_option maxRecDepth 20000 in
theorem ggX6_meter_X2_add : GoodIn wsX6_meter wsX2_add := goodIn_r _ [6, 7, 8, 9, 18, 19, 20] (by decide +kernel) (by decide +kernel)
set_option maxRecDepth 20000 in
theorem gX6_meter_X2_add : GoodIn wsX6_meter (wsV RX6 250 RX2 yX2_add wsX2_add) := goodIn_app (goodIn_of _ (by decide +kernel)) ggX6_meter_X2_add
theorem dX6_meter_0 : decode cX6_meter 0 = .ok (.iload_n 1, 1) := by decide +kernel
theorem dX6_meter_1 : decode cX6_meter 1 = .ok (.ifCond .lt 20, 3) := by decide +kernel
theorem dX6_meter_4 : decode cX6_meter 4 = .ok (.iload_n 1, 1) := by decide +kernel
theorem dX6_meter_5 : decode cX6_meter 5 = .ok (.bipush 40, 2) := by decide +kernel
theorem dX6_meter_7 : decode cX6_meter 7 = .ok (.if_icmp .gt 14, 3) := by decide +kernel
theorem dX6_meter_10 : decode cX6_meter 10 = .ok (.iload_n 2, 1) := by decide +kernel
theorem dX6_meter_11 : decode cX6_meter 11 = .ok (.ifCond .lt 10, 3) := by decide +kernel
theorem dX6_meter_14 : decode cX6_meter 14 = .ok (.iload_n 2, 1) := by decide +kernel
theorem dX6_meter_15 : decode cX6_meter 15 = .ok (.sipush 9999, 3) := by decide +kernel
theorem dX6_meter_18 : decode cX6_meter 18 = .ok (.if_icmp .le 6, 3) := by decide +kernel
theorem dX6_meter_21 : decode cX6_meter 21 = .ok (.bipush (-2), 2) := by decide +kernel
theorem dX6_meter_23 : decode cX6_meter 23 = .ok (.ireturn, 1) := by decide +kernel
theorem dX6_meter_24 : decode cX6_meter 24 = .ok (.aload_n 0, 1) := by decide +kernel
theorem dX6_meter_25 : decode cX6_meter 25 = .ok (.getfield 46, 3) := by decide +kernel
theorem dX6_meter_28 : decode cX6_meter 28 = .ok (.iload_n 1, 1) := by decide +kernel
theorem dX6_meter_29 : decode cX6_meter 29 = .ok (.iload_n 2, 1) := by decide +kernel
theorem dX6_meter_30 : decode cX6_meter 30 = .ok (.invokevirtual 250, 3) := by decide +kernel
theorem dX6_meter_33 : decode cX6_meter 33 = .ok (.ireturn, 1) := by decide +kernel
set_option maxRecDepth 20000 in
theorem ggX6_unmeter_X2_clear : GoodIn wsX6_unmeter wsX2_clear := goodIn_r _ [6, 7, 16, 17, 18] (by decide +kernel) (by decide +kernel)
set_option maxRecDepth 20000 in
theorem gX6_unmeter_X2_clear : GoodIn wsX6_unmeter (wsV RX6 252 RX2 yX2_clear wsX2_clear) := goodIn_app (goodIn_of _ (by decide +kernel)) ggX6_unmeter_X2_clear
theorem dX6_unmeter_0 : decode cX6_unmeter 0 = .ok (.aload_n 0, 1) := by decide +kernel
theorem dX6_unmeter_1 : decode cX6_unmeter 1 = .ok (.getfield 46, 3) := by decide +kernel
theorem dX6_unmeter_4 : decode cX6_unmeter 4 = .ok (.invokevirtual 252, 3) := by decide +kernel
theorem dX6_unmeter_7 : decode cX6_unmeter 7 = .ok (.ireturn, 1) := by decide +kernel
set_option maxRecDepth 20000 in
theorem ggX6_came_X6_tryFirst : GoodIn wsX6_came wsX6_tryFirst := goodIn_r _ [6, 7, 1, 8, 9, 10, 11, 12, 13, 14, 15, 16, 17, 18, 19, 20, 21, 22, 23, 24, 25, 26, 27, 28, 29, 30, 31, 32, 33, 34, 112, 113, 114, 115, 116, 117, 118, 119, 120, 121, 122, 123, 124, 125, 126, 127, 128, 129, 130, 131] (by decide +kernel) (by decide +kernel)
set_option maxRecDepth 20000 in
theorem gX6_came_X6_tryFirst : GoodIn wsX6_came (wsV RX6 191 RX6 yX6_tryFirst wsX6_tryFirst) := goodIn_app (goodIn_of _ (by decide +kernel)) ggX6_came_X6_tryFirst
set_option maxRecDepth 20000 in
theorem ggX6_came_X6_trialFitsMeters : GoodIn wsX6_came wsX6_trialFitsMeters := goodIn_r _ [38, 39, 7, 40, 41, 42, 15, 43, 17, 44, 45, 10, 46, 47, 48, 49, 50, 23, 51, 52, 53, 54, 26, 30, 27, 55, 56, 57, 58, 29, 59, 60, 61, 62, 63, 64, 65, 66, 67, 68, 69, 70, 71, 72, 73, 74, 25, 75, 76, 77, 78, 79, 80, 81, 82, 83, 84, 85, 5, 86, 87, 88, 89, 90, 24, 91, 9, 11, 92, 93, 94, 95, 96, 97, 98, 99, 100, 101, 102, 103, 28, 104, 105, 106, 107, 18, 108, 109, 110, 111, 112, 113, 114, 115, 116, 117, 118, 119, 120, 121, 122, 123, 124, 125, 126, 127, 128, 129, 130, 131, 132, 133, 134] (by decide +kernel) (by decide +kernel)
set_option maxRecDepth 20000 in
theorem gX6_came_X6_trialFitsMeters : GoodIn wsX6_came (wsV RX6 253 RX6 yX6_trialFitsMeters wsX6_trialFitsMeters) := goodIn_app (goodIn_of _ (by decide +kernel)) ggX6_came_X6_trialFitsMeters
theorem dX6_came_0 : decode cX6_came 0 = .ok (.iconst 0, 1) := by decide +kernel
theorem dX6_came_1 : decode cX6_came 1 = .ok (.istore_n 1, 1) := by decide +kernel
theorem dX6_came_2 : decode cX6_came 2 = .ok (.iconst 0, 1) := by decide +kernel
theorem dX6_came_3 : decode cX6_came 3 = .ok (.istore_n 2, 1) := by decide +kernel
theorem dX6_came_4 : decode cX6_came 4 = .ok (.iload_n 2, 1) := by decide +kernel
theorem dX6_came_5 : decode cX6_came 5 = .ok (.aload_n 0, 1) := by decide +kernel
theorem dX6_came_6 : decode cX6_came 6 = .ok (.getfield 19, 3) := by decide +kernel
theorem dX6_came_9 : decode cX6_came 9 = .ok (.getfield 79, 3) := by decide +kernel
theorem dX6_came_12 : decode cX6_came 12 = .ok (.if_icmp .gt 27, 3) := by decide +kernel
theorem dX6_came_15 : decode cX6_came 15 = .ok (.aload_n 0, 1) := by decide +kernel
theorem dX6_came_16 : decode cX6_came 16 = .ok (.iload_n 2, 1) := by decide +kernel
theorem dX6_came_17 : decode cX6_came 17 = .ok (.invokevirtual 191, 3) := by decide +kernel
theorem dX6_came_20 : decode cX6_came 20 = .ok (.aload_n 0, 1) := by decide +kernel
theorem dX6_came_21 : decode cX6_came 21 = .ok (.invokevirtual 253, 3) := by decide +kernel
theorem dX6_came_24 : decode cX6_came 24 = .ok (.ifCond .eq 9, 3) := by decide +kernel
theorem dX6_came_27 : decode cX6_came 27 = .ok (.iload_n 1, 1) := by decide +kernel
theorem dX6_came_28 : decode cX6_came 28 = .ok (.iconst 1, 1) := by decide +kernel
theorem dX6_came_29 : decode cX6_came 29 = .ok (.iload_n 2, 1) := by decide +kernel
theorem dX6_came_30 : decode cX6_came 30 = .ok (.ishl, 1) := by decide +kernel
theorem dX6_came_31 : decode cX6_came 31 = .ok (.ior, 1) := by decide +kernel
theorem dX6_came_32 : decode cX6_came 32 = .ok (.istore_n 1, 1) := by decide +kernel
theorem dX6_came_33 : decode cX6_came 33 = .ok (.iinc 2 1, 3) := by decide +kernel
theorem dX6_came_36 : decode cX6_came 36 = .ok (.goto (-32), 3) := by decide +kernel
theorem dX6_came_39 : decode cX6_came 39 = .ok (.iload_n 1, 1) := by decide +kernel
theorem dX6_came_40 : decode cX6_came 40 = .ok (.ireturn, 1) := by decide +kernel
set_option maxRecDepth 20000 in
theorem ggX6_keep_X3_put : GoodIn wsX6_keep wsX3_put := goodIn_r _ [7, 8, 9, 10, 11, 12, 13, 14, 15, 16, 17, 18, 19, 20, 21, 22, 23, 24, 25, 26, 27, 28, 49, 50, 37, 38, 39, 40, 41, 42, 43, 44, 45, 46, 47, 48] (by decide +kernel) (by decide +kernel)
set_option maxRecDepth 20000 in
theorem gX6_keep_X3_put : GoodIn wsX6_keep (wsV RX6 256 RX3 yX3_put wsX3_put) := goodIn_app (goodIn_of _ (by decide +kernel)) ggX6_keep_X3_put
theorem dX6_keep_0 : decode cX6_keep 0 = .ok (.iload_n 1, 1) := by decide +kernel
theorem dX6_keep_1 : decode cX6_keep 1 = .ok (.ifCond .lt 8, 3) := by decide +kernel
theorem dX6_keep_4 : decode cX6_keep 4 = .ok (.iload_n 1, 1) := by decide +kernel
theorem dX6_keep_5 : decode cX6_keep 5 = .ok (.iconst 2, 1) := by decide +kernel
theorem dX6_keep_6 : decode cX6_keep 6 = .ok (.if_icmp .lt 5, 3) := by decide +kernel
theorem dX6_keep_9 : decode cX6_keep 9 = .ok (.iconst (-1), 1) := by decide +kernel
theorem dX6_keep_10 : decode cX6_keep 10 = .ok (.ireturn, 1) := by decide +kernel
theorem dX6_keep_11 : decode cX6_keep 11 = .ok (.aload_n 0, 1) := by decide +kernel
theorem dX6_keep_12 : decode cX6_keep 12 = .ok (.getfield 53, 3) := by decide +kernel
theorem dX6_keep_15 : decode cX6_keep 15 = .ok (.iload_n 1, 1) := by decide +kernel
theorem dX6_keep_16 : decode cX6_keep 16 = .ok (.aload_n 0, 1) := by decide +kernel
theorem dX6_keep_17 : decode cX6_keep 17 = .ok (.getfield 19, 3) := by decide +kernel
theorem dX6_keep_20 : decode cX6_keep 20 = .ok (.invokevirtual 256, 3) := by decide +kernel
theorem dX6_keep_23 : decode cX6_keep 23 = .ok (.aload_n 0, 1) := by decide +kernel
theorem dX6_keep_24 : decode cX6_keep 24 = .ok (.getfield 19, 3) := by decide +kernel
theorem dX6_keep_27 : decode cX6_keep 27 = .ok (.getfield 79, 3) := by decide +kernel
theorem dX6_keep_30 : decode cX6_keep 30 = .ok (.ireturn, 1) := by decide +kernel
set_option maxRecDepth 20000 in
theorem ggX6_again_X3_isKept : GoodIn wsX6_again wsX3_isKept := goodIn_r _ [8, 9, 60, 61] (by decide +kernel) (by decide +kernel)
set_option maxRecDepth 20000 in
theorem gX6_again_X3_isKept : GoodIn wsX6_again (wsV RX6 260 RX3 yX3_isKept wsX3_isKept) := goodIn_app (goodIn_of _ (by decide +kernel)) ggX6_again_X3_isKept
set_option maxRecDepth 20000 in
theorem ggX6_again_X3_at : GoodIn wsX6_again wsX3_at := goodIn_r _ [13, 14, 60, 61] (by decide +kernel) (by decide +kernel)
set_option maxRecDepth 20000 in
theorem gX6_again_X3_at : GoodIn wsX6_again (wsV RX6 263 RX3 yX3_at wsX3_at) := goodIn_app (goodIn_of _ (by decide +kernel)) ggX6_again_X3_at
set_option maxRecDepth 20000 in
theorem ggX6_again_X1_copyFrom : GoodIn wsX6_again wsX1_copyFrom := goodIn_r _ [19, 20, 21, 22, 23, 24, 18, 25, 26, 27, 28, 29, 30, 31, 32, 33, 48, 49, 50, 51, 52, 53, 54, 55, 56, 57, 58, 59] (by decide +kernel) (by decide +kernel)
set_option maxRecDepth 20000 in
theorem gX6_again_X1_copyFrom : GoodIn wsX6_again (wsV RX6 69 RX1 yX1_copyFrom wsX1_copyFrom) := goodIn_app (goodIn_of _ (by decide +kernel)) ggX6_again_X1_copyFrom
set_option maxRecDepth 20000 in
theorem ggX6_again_X0_clear : GoodIn wsX6_again wsX0_clear := goodIn_r _ [38, 39, 62, 63] (by decide +kernel) (by decide +kernel)
set_option maxRecDepth 20000 in
theorem gX6_again_X0_clear : GoodIn wsX6_again (wsV RX6 76 RX0 yX0_clear wsX0_clear) := goodIn_app (goodIn_of _ (by decide +kernel)) ggX6_again_X0_clear
theorem dX6_again_0 : decode cX6_again 0 = .ok (.iload_n 1, 1) := by decide +kernel
theorem dX6_again_1 : decode cX6_again 1 = .ok (.ifCond .lt 8, 3) := by decide +kernel
theorem dX6_again_4 : decode cX6_again 4 = .ok (.iload_n 1, 1) := by decide +kernel
theorem dX6_again_5 : decode cX6_again 5 = .ok (.iconst 2, 1) := by decide +kernel
theorem dX6_again_6 : decode cX6_again 6 = .ok (.if_icmp .lt 5, 3) := by decide +kernel
theorem dX6_again_9 : decode cX6_again 9 = .ok (.iconst (-1), 1) := by decide +kernel
theorem dX6_again_10 : decode cX6_again 10 = .ok (.ireturn, 1) := by decide +kernel
theorem dX6_again_11 : decode cX6_again 11 = .ok (.aload_n 0, 1) := by decide +kernel
theorem dX6_again_12 : decode cX6_again 12 = .ok (.getfield 53, 3) := by decide +kernel
theorem dX6_again_15 : decode cX6_again 15 = .ok (.iload_n 1, 1) := by decide +kernel
theorem dX6_again_16 : decode cX6_again 16 = .ok (.invokevirtual 260, 3) := by decide +kernel
theorem dX6_again_19 : decode cX6_again 19 = .ok (.ifCond .ne 6, 3) := by decide +kernel
theorem dX6_again_22 : decode cX6_again 22 = .ok (.bipush (-3), 2) := by decide +kernel
theorem dX6_again_24 : decode cX6_again 24 = .ok (.ireturn, 1) := by decide +kernel
theorem dX6_again_25 : decode cX6_again 25 = .ok (.aload_n 0, 1) := by decide +kernel
theorem dX6_again_26 : decode cX6_again 26 = .ok (.getfield 19, 3) := by decide +kernel
theorem dX6_again_29 : decode cX6_again 29 = .ok (.aload_n 0, 1) := by decide +kernel
theorem dX6_again_30 : decode cX6_again 30 = .ok (.getfield 53, 3) := by decide +kernel
theorem dX6_again_33 : decode cX6_again 33 = .ok (.iload_n 1, 1) := by decide +kernel
theorem dX6_again_34 : decode cX6_again 34 = .ok (.invokevirtual 263, 3) := by decide +kernel
theorem dX6_again_37 : decode cX6_again 37 = .ok (.invokevirtual 69, 3) := by decide +kernel
theorem dX6_again_40 : decode cX6_again 40 = .ok (.aload_n 0, 1) := by decide +kernel
theorem dX6_again_41 : decode cX6_again 41 = .ok (.getfield 39, 3) := by decide +kernel
theorem dX6_again_44 : decode cX6_again 44 = .ok (.invokevirtual 76, 3) := by decide +kernel
theorem dX6_again_47 : decode cX6_again 47 = .ok (.aload_n 0, 1) := by decide +kernel
theorem dX6_again_48 : decode cX6_again 48 = .ok (.getfield 19, 3) := by decide +kernel
theorem dX6_again_51 : decode cX6_again 51 = .ok (.getfield 79, 3) := by decide +kernel
theorem dX6_again_54 : decode cX6_again 54 = .ok (.ireturn, 1) := by decide +kernel
theorem dX6_isCell_0 : decode cX6_isCell 0 = .ok (.iload_n 0, 1) := by decide +kernel
theorem dX6_isCell_1 : decode cX6_isCell 1 = .ok (.ifCond .lt 23, 3) := by decide +kernel
theorem dX6_isCell_4 : decode cX6_isCell 4 = .ok (.iload_n 0, 1) := by decide +kernel
theorem dX6_isCell_5 : decode cX6_isCell 5 = .ok (.bipush 10, 2) := by decide +kernel
theorem dX6_isCell_7 : decode cX6_isCell 7 = .ok (.if_icmp .ge 17, 3) := by decide +kernel
theorem dX6_isCell_10 : decode cX6_isCell 10 = .ok (.iload_n 1, 1) := by decide +kernel
theorem dX6_isCell_11 : decode cX6_isCell 11 = .ok (.ifCond .lt 13, 3) := by decide +kernel
theorem dX6_isCell_14 : decode cX6_isCell 14 = .ok (.iload_n 1, 1) := by decide +kernel
theorem dX6_isCell_15 : decode cX6_isCell 15 = .ok (.bipush 10, 2) := by decide +kernel
theorem dX6_isCell_17 : decode cX6_isCell 17 = .ok (.if_icmp .ge 7, 3) := by decide +kernel
theorem dX6_isCell_20 : decode cX6_isCell 20 = .ok (.iconst 1, 1) := by decide +kernel
theorem dX6_isCell_21 : decode cX6_isCell 21 = .ok (.goto 4, 3) := by decide +kernel
theorem dX6_isCell_24 : decode cX6_isCell 24 = .ok (.iconst 0, 1) := by decide +kernel
theorem dX6_isCell_25 : decode cX6_isCell 25 = .ok (.ireturn, 1) := by decide +kernel
theorem dX6_squareApart_0 : decode cX6_squareApart 0 = .ok (.iload_n 0, 1) := by decide +kernel
theorem dX6_squareApart_1 : decode cX6_squareApart 1 = .ok (.bipush 10, 2) := by decide +kernel
theorem dX6_squareApart_3 : decode cX6_squareApart 3 = .ok (.irem, 1) := by decide +kernel
theorem dX6_squareApart_4 : decode cX6_squareApart 4 = .ok (.iload_n 1, 1) := by decide +kernel
theorem dX6_squareApart_5 : decode cX6_squareApart 5 = .ok (.bipush 10, 2) := by decide +kernel
theorem dX6_squareApart_7 : decode cX6_squareApart 7 = .ok (.irem, 1) := by decide +kernel
theorem dX6_squareApart_8 : decode cX6_squareApart 8 = .ok (.isub, 1) := by decide +kernel
theorem dX6_squareApart_9 : decode cX6_squareApart 9 = .ok (.istore_n 2, 1) := by decide +kernel
theorem dX6_squareApart_10 : decode cX6_squareApart 10 = .ok (.iload_n 0, 1) := by decide +kernel
theorem dX6_squareApart_11 : decode cX6_squareApart 11 = .ok (.bipush 10, 2) := by decide +kernel
theorem dX6_squareApart_13 : decode cX6_squareApart 13 = .ok (.idiv, 1) := by decide +kernel
theorem dX6_squareApart_14 : decode cX6_squareApart 14 = .ok (.iload_n 1, 1) := by decide +kernel
theorem dX6_squareApart_15 : decode cX6_squareApart 15 = .ok (.bipush 10, 2) := by decide +kernel
theorem dX6_squareApart_17 : decode cX6_squareApart 17 = .ok (.idiv, 1) := by decide +kernel
theorem dX6_squareApart_18 : decode cX6_squareApart 18 = .ok (.isub, 1) := by decide +kernel
theorem dX6_squareApart_19 : decode cX6_squareApart 19 = .ok (.istore_n 3, 1) := by decide +kernel
theorem dX6_squareApart_20 : decode cX6_squareApart 20 = .ok (.iload_n 2, 1) := by decide +kernel
theorem dX6_squareApart_21 : decode cX6_squareApart 21 = .ok (.iload_n 2, 1) := by decide +kernel
theorem dX6_squareApart_22 : decode cX6_squareApart 22 = .ok (.imul, 1) := by decide +kernel
theorem dX6_squareApart_23 : decode cX6_squareApart 23 = .ok (.iload_n 3, 1) := by decide +kernel
theorem dX6_squareApart_24 : decode cX6_squareApart 24 = .ok (.iload_n 3, 1) := by decide +kernel
theorem dX6_squareApart_25 : decode cX6_squareApart 25 = .ok (.imul, 1) := by decide +kernel
theorem dX6_squareApart_26 : decode cX6_squareApart 26 = .ok (.iadd, 1) := by decide +kernel
theorem dX6_squareApart_27 : decode cX6_squareApart 27 = .ok (.ireturn, 1) := by decide +kernel
set_option maxRecDepth 20000 in
theorem ggX6_tryFirst_X1_copyFrom : GoodIn wsX6_tryFirst wsX1_copyFrom := goodIn_r _ [11, 12, 13, 14, 15, 16, 10, 17, 18, 19, 20, 21, 22, 23, 24, 25, 38, 39, 40, 41, 42, 43, 44, 45, 46, 47, 48, 49] (by decide +kernel) (by decide +kernel)
set_option maxRecDepth 20000 in
theorem gX6_tryFirst_X1_copyFrom : GoodIn wsX6_tryFirst (wsV RX6 69 RX1 yX1_copyFrom wsX1_copyFrom) := goodIn_app (goodIn_of _ (by decide +kernel)) ggX6_tryFirst_X1_copyFrom
set_option maxRecDepth 20000 in
theorem ggX6_tryFirst_X1_speakAll : GoodIn wsX6_tryFirst wsX1_speakAll := goodIn_r _ [29, 18, 22, 38, 39, 40, 41, 42, 43, 44, 45, 46, 47, 48, 49] (by decide +kernel) (by decide +kernel)
set_option maxRecDepth 20000 in
theorem gX6_tryFirst_X1_speakAll : GoodIn wsX6_tryFirst (wsV RX6 182 RX1 yX1_speakAll wsX1_speakAll) := goodIn_app (goodIn_of _ (by decide +kernel)) ggX6_tryFirst_X1_speakAll
theorem dX6_tryFirst_0 : decode cX6_tryFirst 0 = .ok (.aload_n 0, 1) := by decide +kernel
theorem dX6_tryFirst_1 : decode cX6_tryFirst 1 = .ok (.getfield 23, 3) := by decide +kernel
theorem dX6_tryFirst_4 : decode cX6_tryFirst 4 = .ok (.aload_n 0, 1) := by decide +kernel
theorem dX6_tryFirst_5 : decode cX6_tryFirst 5 = .ok (.getfield 19, 3) := by decide +kernel
theorem dX6_tryFirst_8 : decode cX6_tryFirst 8 = .ok (.invokevirtual 69, 3) := by decide +kernel
theorem dX6_tryFirst_11 : decode cX6_tryFirst 11 = .ok (.aload_n 0, 1) := by decide +kernel
theorem dX6_tryFirst_12 : decode cX6_tryFirst 12 = .ok (.getfield 23, 3) := by decide +kernel
theorem dX6_tryFirst_15 : decode cX6_tryFirst 15 = .ok (.iload_n 1, 1) := by decide +kernel
theorem dX6_tryFirst_16 : decode cX6_tryFirst 16 = .ok (.aload_n 0, 1) := by decide +kernel
theorem dX6_tryFirst_17 : decode cX6_tryFirst 17 = .ok (.getfield 19, 3) := by decide +kernel
theorem dX6_tryFirst_20 : decode cX6_tryFirst 20 = .ok (.getfield 79, 3) := by decide +kernel
theorem dX6_tryFirst_23 : decode cX6_tryFirst 23 = .ok (.invokestatic 204, 3) := by decide +kernel
theorem dX6_tryFirst_26 : decode cX6_tryFirst 26 = .ok (.putfield 79, 3) := by decide +kernel
theorem dX6_tryFirst_29 : decode cX6_tryFirst 29 = .ok (.aload_n 0, 1) := by decide +kernel
theorem dX6_tryFirst_30 : decode cX6_tryFirst 30 = .ok (.getfield 23, 3) := by decide +kernel
theorem dX6_tryFirst_33 : decode cX6_tryFirst 33 = .ok (.iconst 1, 1) := by decide +kernel
theorem dX6_tryFirst_34 : decode cX6_tryFirst 34 = .ok (.invokevirtual 182, 3) := by decide +kernel
theorem dX6_tryFirst_37 : decode cX6_tryFirst 37 = .ok (.pop, 1) := by decide +kernel
theorem dX6_tryFirst_38 : decode cX6_tryFirst 38 = .ok (.return_, 1) := by decide +kernel
set_option maxRecDepth 20000 in
theorem ggX6_trialFitsMeters_X1_echoing : GoodIn wsX6_trialFitsMeters wsX1_echoing := goodIn_r _ [7, 8, 9, 10, 11, 12, 13, 14, 15, 6, 16, 17, 18, 19, 20, 21, 22, 23, 24, 25, 26, 27, 28, 29, 98, 99, 100, 101, 102, 103, 104, 105, 106, 107, 108, 109] (by decide +kernel) (by decide +kernel)
set_option maxRecDepth 20000 in
theorem gX6_trialFitsMeters_X1_echoing : GoodIn wsX6_trialFitsMeters (wsV RX6 92 RX1 yX1_echoing wsX1_echoing) := goodIn_app (goodIn_of _ (by decide +kernel)) ggX6_trialFitsMeters_X1_echoing
set_option maxRecDepth 20000 in
theorem ggX6_trialFitsMeters_X2_fit : GoodIn wsX6_trialFitsMeters wsX2_fit := goodIn_r _ [34, 35, 36, 37, 38, 39, 11, 40, 110, 111, 112] (by decide +kernel) (by decide +kernel)
set_option maxRecDepth 20000 in
theorem gX6_trialFitsMeters_X2_fit : GoodIn wsX6_trialFitsMeters (wsV RX6 267 RX2 yX2_fit wsX2_fit) := goodIn_app (goodIn_of _ (by decide +kernel)) ggX6_trialFitsMeters_X2_fit
set_option maxRecDepth 20000 in
theorem ggX6_trialFitsMeters_X1_look : GoodIn wsX6_trialFitsMeters wsX1_look := goodIn_r _ [44, 17, 45, 46, 47, 48, 4, 5, 6, 7, 8, 9, 10, 11, 12, 13, 14, 15, 16, 18, 19, 20, 21, 22, 23, 24, 25, 26, 27, 28, 29, 49, 50, 51, 52, 53, 54, 55, 56, 57, 58, 59, 60, 61, 62, 63, 64, 65, 66, 67, 68, 69, 70, 71, 72, 73, 74, 75, 76, 77, 78, 79, 80, 81, 82, 83, 84, 85, 98, 99, 100, 101, 102, 103, 104, 105, 106, 107, 108, 109] (by decide +kernel) (by decide +kernel)
set_option maxRecDepth 20000 in
theorem gX6_trialFitsMeters_X1_look : GoodIn wsX6_trialFitsMeters (wsV RX6 163 RX1 yX1_look wsX1_look) := goodIn_app (goodIn_of _ (by decide +kernel)) ggX6_trialFitsMeters_X1_look
set_option maxRecDepth 20000 in
theorem ggX6_trialFitsMeters_X1_take : GoodIn wsX6_trialFitsMeters wsX1_take := goodIn_r _ [89, 17, 24, 45, 47, 29, 98, 99, 100, 101, 102, 103, 104, 105, 106, 107, 108, 109] (by decide +kernel) (by decide +kernel)
set_option maxRecDepth 20000 in
theorem gX6_trialFitsMeters_X1_take : GoodIn wsX6_trialFitsMeters (wsV RX6 169 RX1 yX1_take wsX1_take) := goodIn_app (goodIn_of _ (by decide +kernel)) ggX6_trialFitsMeters_X1_take
theorem dX6_trialFitsMeters_0 : decode cX6_trialFitsMeters 0 = .ok (.iconst 0, 1) := by decide +kernel
theorem dX6_trialFitsMeters_1 : decode cX6_trialFitsMeters 1 = .ok (.istore_n 1, 1) := by decide +kernel
theorem dX6_trialFitsMeters_2 : decode cX6_trialFitsMeters 2 = .ok (.iload_n 1, 1) := by decide +kernel
theorem dX6_trialFitsMeters_3 : decode cX6_trialFitsMeters 3 = .ok (.bipush 40, 2) := by decide +kernel
theorem dX6_trialFitsMeters_5 : decode cX6_trialFitsMeters 5 = .ok (.if_icmp .gt 43, 3) := by decide +kernel
theorem dX6_trialFitsMeters_8 : decode cX6_trialFitsMeters 8 = .ok (.aload_n 0, 1) := by decide +kernel
theorem dX6_trialFitsMeters_9 : decode cX6_trialFitsMeters 9 = .ok (.getfield 46, 3) := by decide +kernel
theorem dX6_trialFitsMeters_12 : decode cX6_trialFitsMeters 12 = .ok (.iload_n 1, 1) := by decide +kernel
theorem dX6_trialFitsMeters_13 : decode cX6_trialFitsMeters 13 = .ok (.aload_n 0, 1) := by decide +kernel
theorem dX6_trialFitsMeters_14 : decode cX6_trialFitsMeters 14 = .ok (.getfield 23, 3) := by decide +kernel
theorem dX6_trialFitsMeters_17 : decode cX6_trialFitsMeters 17 = .ok (.invokevirtual 92, 3) := by decide +kernel
theorem dX6_trialFitsMeters_20 : decode cX6_trialFitsMeters 20 = .ok (.invokevirtual 267, 3) := by decide +kernel
theorem dX6_trialFitsMeters_23 : decode cX6_trialFitsMeters 23 = .ok (.ifCond .ne 5, 3) := by decide +kernel
theorem dX6_trialFitsMeters_26 : decode cX6_trialFitsMeters 26 = .ok (.iconst 0, 1) := by decide +kernel
theorem dX6_trialFitsMeters_27 : decode cX6_trialFitsMeters 27 = .ok (.ireturn, 1) := by decide +kernel
theorem dX6_trialFitsMeters_28 : decode cX6_trialFitsMeters 28 = .ok (.aload_n 0, 1) := by decide +kernel
theorem dX6_trialFitsMeters_29 : decode cX6_trialFitsMeters 29 = .ok (.getfield 23, 3) := by decide +kernel
theorem dX6_trialFitsMeters_32 : decode cX6_trialFitsMeters 32 = .ok (.invokevirtual 163, 3) := by decide +kernel
theorem dX6_trialFitsMeters_35 : decode cX6_trialFitsMeters 35 = .ok (.aload_n 0, 1) := by decide +kernel
theorem dX6_trialFitsMeters_36 : decode cX6_trialFitsMeters 36 = .ok (.getfield 23, 3) := by decide +kernel
theorem dX6_trialFitsMeters_39 : decode cX6_trialFitsMeters 39 = .ok (.invokevirtual 169, 3) := by decide +kernel
theorem dX6_trialFitsMeters_42 : decode cX6_trialFitsMeters 42 = .ok (.iinc 1 1, 3) := by decide +kernel
theorem dX6_trialFitsMeters_45 : decode cX6_trialFitsMeters 45 = .ok (.goto (-43), 3) := by decide +kernel
theorem dX6_trialFitsMeters_48 : decode cX6_trialFitsMeters 48 = .ok (.iconst 1, 1) := by decide +kernel
theorem dX6_trialFitsMeters_49 : decode cX6_trialFitsMeters 49 = .ok (.ireturn, 1) := by decide +kernel
theorem dX6_isTables_0 : decode cX6_isTables 0 = .ok (.iload_n 0, 1) := by decide +kernel
theorem dX6_isTables_1 : decode cX6_isTables 1 = .ok (.iconst 1, 1) := by decide +kernel
theorem dX6_isTables_2 : decode cX6_isTables 2 = .ok (.if_icmp .lt 22, 3) := by decide +kernel
theorem dX6_isTables_5 : decode cX6_isTables 5 = .ok (.iload_n 0, 1) := by decide +kernel
theorem dX6_isTables_6 : decode cX6_isTables 6 = .ok (.iconst 4, 1) := by decide +kernel
theorem dX6_isTables_7 : decode cX6_isTables 7 = .ok (.if_icmp .gt 17, 3) := by decide +kernel
theorem dX6_isTables_10 : decode cX6_isTables 10 = .ok (.iload_n 1, 1) := by decide +kernel
theorem dX6_isTables_11 : decode cX6_isTables 11 = .ok (.ifCond .lt 13, 3) := by decide +kernel
theorem dX6_isTables_14 : decode cX6_isTables 14 = .ok (.iload_n 1, 1) := by decide +kernel
theorem dX6_isTables_15 : decode cX6_isTables 15 = .ok (.bipush 10, 2) := by decide +kernel
theorem dX6_isTables_17 : decode cX6_isTables 17 = .ok (.if_icmp .ge 7, 3) := by decide +kernel
theorem dX6_isTables_20 : decode cX6_isTables 20 = .ok (.iconst 1, 1) := by decide +kernel
theorem dX6_isTables_21 : decode cX6_isTables 21 = .ok (.goto 4, 3) := by decide +kernel
theorem dX6_isTables_24 : decode cX6_isTables 24 = .ok (.iconst 0, 1) := by decide +kernel
theorem dX6_isTables_25 : decode cX6_isTables 25 = .ok (.ireturn, 1) := by decide +kernel
theorem dX6_cellInLine_0 : decode cX6_cellInLine 0 = .ok (.iload_n 0, 1) := by decide +kernel
theorem dX6_cellInLine_1 : decode cX6_cellInLine 1 = .ok (.ifCond .eq 12, 3) := by decide +kernel
theorem dX6_cellInLine_4 : decode cX6_cellInLine 4 = .ok (.bipush 10, 2) := by decide +kernel
theorem dX6_cellInLine_6 : decode cX6_cellInLine 6 = .ok (.iload_n 2, 1) := by decide +kernel
theorem dX6_cellInLine_7 : decode cX6_cellInLine 7 = .ok (.imul, 1) := by decide +kernel
theorem dX6_cellInLine_8 : decode cX6_cellInLine 8 = .ok (.iload_n 1, 1) := by decide +kernel
theorem dX6_cellInLine_9 : decode cX6_cellInLine 9 = .ok (.iadd, 1) := by decide +kernel
theorem dX6_cellInLine_10 : decode cX6_cellInLine 10 = .ok (.goto 9, 3) := by decide +kernel
theorem dX6_cellInLine_13 : decode cX6_cellInLine 13 = .ok (.bipush 10, 2) := by decide +kernel
theorem dX6_cellInLine_15 : decode cX6_cellInLine 15 = .ok (.iload_n 1, 1) := by decide +kernel
theorem dX6_cellInLine_16 : decode cX6_cellInLine 16 = .ok (.imul, 1) := by decide +kernel
theorem dX6_cellInLine_17 : decode cX6_cellInLine 17 = .ok (.iload_n 2, 1) := by decide +kernel
theorem dX6_cellInLine_18 : decode cX6_cellInLine 18 = .ok (.iadd, 1) := by decide +kernel
theorem dX6_cellInLine_19 : decode cX6_cellInLine 19 = .ok (.ireturn, 1) := by decide +kernel
theorem dX6_isIn_0 : decode cX6_isIn 0 = .ok (.iload_n 0, 1) := by decide +kernel
theorem dX6_isIn_1 : decode cX6_isIn 1 = .ok (.bipush 9, 2) := by decide +kernel
theorem dX6_isIn_3 : decode cX6_isIn 3 = .ok (.iload_n 1, 1) := by decide +kernel
theorem dX6_isIn_4 : decode cX6_isIn 4 = .ok (.isub, 1) := by decide +kernel
theorem dX6_isIn_5 : decode cX6_isIn 5 = .ok (.ishr, 1) := by decide +kernel
theorem dX6_isIn_6 : decode cX6_isIn 6 = .ok (.iconst 1, 1) := by decide +kernel
theorem dX6_isIn_7 : decode cX6_isIn 7 = .ok (.iand, 1) := by decide +kernel
theorem dX6_isIn_8 : decode cX6_isIn 8 = .ok (.iconst 1, 1) := by decide +kernel
theorem dX6_isIn_9 : decode cX6_isIn 9 = .ok (.if_icmp .ne 7, 3) := by decide +kernel
theorem dX6_isIn_12 : decode cX6_isIn 12 = .ok (.iconst 1, 1) := by decide +kernel
theorem dX6_isIn_13 : decode cX6_isIn 13 = .ok (.goto 4, 3) := by decide +kernel
theorem dX6_isIn_16 : decode cX6_isIn 16 = .ok (.iconst 0, 1) := by decide +kernel
theorem dX6_isIn_17 : decode cX6_isIn 17 = .ok (.ireturn, 1) := by decide +kernel
set_option maxRecDepth 20000 in
theorem ggX6_bestTables_J6_bitCount_0f7a4 : GoodIn wsX6_bestTables wsJ6_bitCount_0f7a4 := goodIn_r _ [4, 5, 6, 7] (by decide +kernel) (by decide +kernel)
set_option maxRecDepth 20000 in
theorem gX6_bestTables_J6_bitCount_0f7a4 : GoodIn wsX6_bestTables (va_wsS RX6 270 yJ6_bitCount_0f7a4 wsJ6_bitCount_0f7a4) := goodIn_app (goodIn_of _ (by decide +kernel)) ggX6_bestTables_J6_bitCount_0f7a4
set_option maxRecDepth 20000 in
theorem ggX6_bestTables_X6_leastSquare : GoodIn wsX6_bestTables wsX6_leastSquare := goodIn_r _ [12, 13, 14, 15, 16, 17, 18, 19, 11, 20, 21, 22, 23, 24, 25, 26, 27, 28, 29, 30, 31, 32, 33, 34, 35, 36, 37, 38, 39, 40, 41, 42, 43, 44, 45, 46, 47, 48, 49, 50, 51, 52, 53] (by decide +kernel) (by decide +kernel)
set_option maxRecDepth 20000 in
theorem gX6_bestTables_X6_leastSquare : GoodIn wsX6_bestTables (wsV RX6 222 RX6 yX6_leastSquare wsX6_leastSquare) := goodIn_app (goodIn_of _ (by decide +kernel)) ggX6_bestTables_X6_leastSquare
theorem dX6_bestTables_0 : decode cX6_bestTables 0 = .ok (.iconst 0, 1) := by decide +kernel
theorem dX6_bestTables_1 : decode cX6_bestTables 1 = .ok (.istore 4, 2) := by decide +kernel
theorem dX6_bestTables_3 : decode cX6_bestTables 3 = .ok (.iconst 0, 1) := by decide +kernel
theorem dX6_bestTables_4 : decode cX6_bestTables 4 = .ok (.istore 5, 2) := by decide +kernel
theorem dX6_bestTables_6 : decode cX6_bestTables 6 = .ok (.sipush 1023, 3) := by decide +kernel
theorem dX6_bestTables_9 : decode cX6_bestTables 9 = .ok (.istore 6, 2) := by decide +kernel
theorem dX6_bestTables_11 : decode cX6_bestTables 11 = .ok (.iload 6, 2) := by decide +kernel
theorem dX6_bestTables_13 : decode cX6_bestTables 13 = .ok (.ifCond .le 43, 3) := by decide +kernel
theorem dX6_bestTables_16 : decode cX6_bestTables 16 = .ok (.iload 6, 2) := by decide +kernel
theorem dX6_bestTables_18 : decode cX6_bestTables 18 = .ok (.invokestatic 270, 3) := by decide +kernel
theorem dX6_bestTables_21 : decode cX6_bestTables 21 = .ok (.iload_n 1, 1) := by decide +kernel
theorem dX6_bestTables_22 : decode cX6_bestTables 22 = .ok (.if_icmp .ne 28, 3) := by decide +kernel
theorem dX6_bestTables_25 : decode cX6_bestTables 25 = .ok (.aload_n 0, 1) := by decide +kernel
theorem dX6_bestTables_26 : decode cX6_bestTables 26 = .ok (.iload 6, 2) := by decide +kernel
theorem dX6_bestTables_28 : decode cX6_bestTables 28 = .ok (.iload_n 2, 1) := by decide +kernel
theorem dX6_bestTables_29 : decode cX6_bestTables 29 = .ok (.iload_n 3, 1) := by decide +kernel
theorem dX6_bestTables_30 : decode cX6_bestTables 30 = .ok (.invokevirtual 222, 3) := by decide +kernel
theorem dX6_bestTables_33 : decode cX6_bestTables 33 = .ok (.istore 7, 2) := by decide +kernel
theorem dX6_bestTables_35 : decode cX6_bestTables 35 = .ok (.iload 7, 2) := by decide +kernel
theorem dX6_bestTables_37 : decode cX6_bestTables 37 = .ok (.iload 5, 2) := by decide +kernel
theorem dX6_bestTables_39 : decode cX6_bestTables 39 = .ok (.if_icmp .le 11, 3) := by decide +kernel
theorem dX6_bestTables_42 : decode cX6_bestTables 42 = .ok (.iload 6, 2) := by decide +kernel
theorem dX6_bestTables_44 : decode cX6_bestTables 44 = .ok (.istore 4, 2) := by decide +kernel
theorem dX6_bestTables_46 : decode cX6_bestTables 46 = .ok (.iload 7, 2) := by decide +kernel
theorem dX6_bestTables_48 : decode cX6_bestTables 48 = .ok (.istore 5, 2) := by decide +kernel
theorem dX6_bestTables_50 : decode cX6_bestTables 50 = .ok (.iinc 6 (-1), 3) := by decide +kernel
theorem dX6_bestTables_53 : decode cX6_bestTables 53 = .ok (.goto (-42), 3) := by decide +kernel
theorem dX6_bestTables_56 : decode cX6_bestTables 56 = .ok (.iload 4, 2) := by decide +kernel
theorem dX6_bestTables_58 : decode cX6_bestTables 58 = .ok (.ireturn, 1) := by decide +kernel
set_option maxRecDepth 20000 in
theorem ggX6_leastSquare_X6_isIn : GoodIn wsX6_leastSquare wsX6_isIn := goodIn_r _ [9] (by decide +kernel) (by decide +kernel)
set_option maxRecDepth 20000 in
theorem gX6_leastSquare_X6_isIn : GoodIn wsX6_leastSquare (va_wsS RX6 225 yX6_isIn wsX6_isIn) := goodIn_app (goodIn_of _ (by decide +kernel)) ggX6_leastSquare_X6_isIn
set_option maxRecDepth 20000 in
theorem ggX6_leastSquare_X6_cellInLine : GoodIn wsX6_leastSquare wsX6_cellInLine := goodIn_r _ [12] (by decide +kernel) (by decide +kernel)
set_option maxRecDepth 20000 in
theorem gX6_leastSquare_X6_cellInLine : GoodIn wsX6_leastSquare (va_wsS RX6 228 yX6_cellInLine wsX6_cellInLine) := goodIn_app (goodIn_of _ (by decide +kernel)) ggX6_leastSquare_X6_cellInLine
set_option maxRecDepth 20000 in
theorem ggX6_leastSquare_X1_squareToRings : GoodIn wsX6_leastSquare wsX1_squareToRings := goodIn_r _ [17, 18, 19, 20, 3, 4, 5, 21, 8, 22, 31, 32, 33, 34, 35, 36, 37, 38, 39, 40, 41, 42] (by decide +kernel) (by decide +kernel)
set_option maxRecDepth 20000 in
theorem gX6_leastSquare_X1_squareToRings : GoodIn wsX6_leastSquare (wsV RX6 275 RX1 yX1_squareToRings wsX1_squareToRings) := goodIn_app (goodIn_of _ (by decide +kernel)) ggX6_leastSquare_X1_squareToRings
theorem dX6_leastSquare_0 : decode cX6_leastSquare 0 = .ok (.sipush 1000, 3) := by decide +kernel
theorem dX6_leastSquare_3 : decode cX6_leastSquare 3 = .ok (.istore 4, 2) := by decide +kernel
theorem dX6_leastSquare_5 : decode cX6_leastSquare 5 = .ok (.iconst 0, 1) := by decide +kernel
theorem dX6_leastSquare_6 : decode cX6_leastSquare 6 = .ok (.istore 5, 2) := by decide +kernel
theorem dX6_leastSquare_8 : decode cX6_leastSquare 8 = .ok (.iload 5, 2) := by decide +kernel
theorem dX6_leastSquare_10 : decode cX6_leastSquare 10 = .ok (.bipush 10, 2) := by decide +kernel
theorem dX6_leastSquare_12 : decode cX6_leastSquare 12 = .ok (.if_icmp .ge 85, 3) := by decide +kernel
theorem dX6_leastSquare_15 : decode cX6_leastSquare 15 = .ok (.iload_n 1, 1) := by decide +kernel
theorem dX6_leastSquare_16 : decode cX6_leastSquare 16 = .ok (.iload 5, 2) := by decide +kernel
theorem dX6_leastSquare_18 : decode cX6_leastSquare 18 = .ok (.invokestatic 225, 3) := by decide +kernel
theorem dX6_leastSquare_21 : decode cX6_leastSquare 21 = .ok (.ifCond .eq 70, 3) := by decide +kernel
theorem dX6_leastSquare_24 : decode cX6_leastSquare 24 = .ok (.iload 4, 2) := by decide +kernel
theorem dX6_leastSquare_26 : decode cX6_leastSquare 26 = .ok (.aload_n 0, 1) := by decide +kernel
theorem dX6_leastSquare_27 : decode cX6_leastSquare 27 = .ok (.getfield 19, 3) := by decide +kernel
theorem dX6_leastSquare_30 : decode cX6_leastSquare 30 = .ok (.iload_n 2, 1) := by decide +kernel
theorem dX6_leastSquare_31 : decode cX6_leastSquare 31 = .ok (.iload_n 3, 1) := by decide +kernel
theorem dX6_leastSquare_32 : decode cX6_leastSquare 32 = .ok (.iload 5, 2) := by decide +kernel
theorem dX6_leastSquare_34 : decode cX6_leastSquare 34 = .ok (.invokestatic 228, 3) := by decide +kernel
theorem dX6_leastSquare_37 : decode cX6_leastSquare 37 = .ok (.invokevirtual 275, 3) := by decide +kernel
theorem dX6_leastSquare_40 : decode cX6_leastSquare 40 = .ok (.invokestatic 204, 3) := by decide +kernel
theorem dX6_leastSquare_43 : decode cX6_leastSquare 43 = .ok (.istore 4, 2) := by decide +kernel
theorem dX6_leastSquare_45 : decode cX6_leastSquare 45 = .ok (.iload 5, 2) := by decide +kernel
theorem dX6_leastSquare_47 : decode cX6_leastSquare 47 = .ok (.iconst 1, 1) := by decide +kernel
theorem dX6_leastSquare_48 : decode cX6_leastSquare 48 = .ok (.iadd, 1) := by decide +kernel
theorem dX6_leastSquare_49 : decode cX6_leastSquare 49 = .ok (.istore 6, 2) := by decide +kernel
theorem dX6_leastSquare_51 : decode cX6_leastSquare 51 = .ok (.iload 6, 2) := by decide +kernel
theorem dX6_leastSquare_53 : decode cX6_leastSquare 53 = .ok (.bipush 10, 2) := by decide +kernel
theorem dX6_leastSquare_55 : decode cX6_leastSquare 55 = .ok (.if_icmp .ge 36, 3) := by decide +kernel
theorem dX6_leastSquare_58 : decode cX6_leastSquare 58 = .ok (.iload_n 1, 1) := by decide +kernel
theorem dX6_leastSquare_59 : decode cX6_leastSquare 59 = .ok (.iload 6, 2) := by decide +kernel
theorem dX6_leastSquare_61 : decode cX6_leastSquare 61 = .ok (.invokestatic 225, 3) := by decide +kernel
theorem dX6_leastSquare_64 : decode cX6_leastSquare 64 = .ok (.ifCond .eq 21, 3) := by decide +kernel
theorem dX6_leastSquare_67 : decode cX6_leastSquare 67 = .ok (.iload 4, 2) := by decide +kernel
theorem dX6_leastSquare_69 : decode cX6_leastSquare 69 = .ok (.iload 6, 2) := by decide +kernel
theorem dX6_leastSquare_71 : decode cX6_leastSquare 71 = .ok (.iload 5, 2) := by decide +kernel
theorem dX6_leastSquare_73 : decode cX6_leastSquare 73 = .ok (.isub, 1) := by decide +kernel
theorem dX6_leastSquare_74 : decode cX6_leastSquare 74 = .ok (.iload 6, 2) := by decide +kernel
theorem dX6_leastSquare_76 : decode cX6_leastSquare 76 = .ok (.iload 5, 2) := by decide +kernel
theorem dX6_leastSquare_78 : decode cX6_leastSquare 78 = .ok (.isub, 1) := by decide +kernel
theorem dX6_leastSquare_79 : decode cX6_leastSquare 79 = .ok (.imul, 1) := by decide +kernel
theorem dX6_leastSquare_80 : decode cX6_leastSquare 80 = .ok (.invokestatic 204, 3) := by decide +kernel
theorem dX6_leastSquare_83 : decode cX6_leastSquare 83 = .ok (.istore 4, 2) := by decide +kernel
theorem dX6_leastSquare_85 : decode cX6_leastSquare 85 = .ok (.iinc 6 1, 3) := by decide +kernel
theorem dX6_leastSquare_88 : decode cX6_leastSquare 88 = .ok (.goto (-37), 3) := by decide +kernel
theorem dX6_leastSquare_91 : decode cX6_leastSquare 91 = .ok (.iinc 5 1, 3) := by decide +kernel
theorem dX6_leastSquare_94 : decode cX6_leastSquare 94 = .ok (.goto (-86), 3) := by decide +kernel
theorem dX6_leastSquare_97 : decode cX6_leastSquare 97 = .ok (.iload 4, 2) := by decide +kernel
theorem dX6_leastSquare_99 : decode cX6_leastSquare 99 = .ok (.ireturn, 1) := by decide +kernel
theorem dX6_weightOf_0 : decode cX6_weightOf 0 = .ok (.lconst 1, 1) := by decide +kernel
theorem dX6_weightOf_1 : decode cX6_weightOf 1 = .ok (.lstore 4, 2) := by decide +kernel
theorem dX6_weightOf_3 : decode cX6_weightOf 3 = .ok (.iconst 0, 1) := by decide +kernel
theorem dX6_weightOf_4 : decode cX6_weightOf 4 = .ok (.istore 6, 2) := by decide +kernel
theorem dX6_weightOf_6 : decode cX6_weightOf 6 = .ok (.iload 6, 2) := by decide +kernel
theorem dX6_weightOf_8 : decode cX6_weightOf 8 = .ok (.aload_n 0, 1) := by decide +kernel
theorem dX6_weightOf_9 : decode cX6_weightOf 9 = .ok (.getfield 19, 3) := by decide +kernel
theorem dX6_weightOf_12 : decode cX6_weightOf 12 = .ok (.getfield 79, 3) := by decide +kernel
theorem dX6_weightOf_15 : decode cX6_weightOf 15 = .ok (.if_icmp .ge 40, 3) := by decide +kernel
theorem dX6_weightOf_18 : decode cX6_weightOf 18 = .ok (.iload 6, 2) := by decide +kernel
theorem dX6_weightOf_20 : decode cX6_weightOf 20 = .ok (.iload_n 2, 1) := by decide +kernel
theorem dX6_weightOf_21 : decode cX6_weightOf 21 = .ok (.if_icmp .eq 28, 3) := by decide +kernel
theorem dX6_weightOf_24 : decode cX6_weightOf 24 = .ok (.lload 4, 2) := by decide +kernel
theorem dX6_weightOf_26 : decode cX6_weightOf 26 = .ok (.iload_n 1, 1) := by decide +kernel
theorem dX6_weightOf_27 : decode cX6_weightOf 27 = .ok (.iload 6, 2) := by decide +kernel
theorem dX6_weightOf_29 : decode cX6_weightOf 29 = .ok (.ishr, 1) := by decide +kernel
theorem dX6_weightOf_30 : decode cX6_weightOf 30 = .ok (.iconst 1, 1) := by decide +kernel
theorem dX6_weightOf_31 : decode cX6_weightOf 31 = .ok (.iand, 1) := by decide +kernel
theorem dX6_weightOf_32 : decode cX6_weightOf 32 = .ok (.iconst 1, 1) := by decide +kernel
theorem dX6_weightOf_33 : decode cX6_weightOf 33 = .ok (.if_icmp .ne 11, 3) := by decide +kernel
theorem dX6_weightOf_36 : decode cX6_weightOf 36 = .ok (.bipush 10, 2) := by decide +kernel
theorem dX6_weightOf_38 : decode cX6_weightOf 38 = .ok (.iload_n 3, 1) := by decide +kernel
theorem dX6_weightOf_39 : decode cX6_weightOf 39 = .ok (.isub, 1) := by decide +kernel
theorem dX6_weightOf_40 : decode cX6_weightOf 40 = .ok (.i2l, 1) := by decide +kernel
theorem dX6_weightOf_41 : decode cX6_weightOf 41 = .ok (.goto 5, 3) := by decide +kernel
theorem dX6_weightOf_44 : decode cX6_weightOf 44 = .ok (.iload_n 3, 1) := by decide +kernel
theorem dX6_weightOf_45 : decode cX6_weightOf 45 = .ok (.i2l, 1) := by decide +kernel
theorem dX6_weightOf_46 : decode cX6_weightOf 46 = .ok (.lmul, 1) := by decide +kernel
theorem dX6_weightOf_47 : decode cX6_weightOf 47 = .ok (.lstore 4, 2) := by decide +kernel
theorem dX6_weightOf_49 : decode cX6_weightOf 49 = .ok (.iinc 6 1, 3) := by decide +kernel
theorem dX6_weightOf_52 : decode cX6_weightOf 52 = .ok (.goto (-46), 3) := by decide +kernel
theorem dX6_weightOf_55 : decode cX6_weightOf 55 = .ok (.lload 4, 2) := by decide +kernel
theorem dX6_weightOf_57 : decode cX6_weightOf 57 = .ok (.lreturn, 1) := by decide +kernel
theorem dX6_commonDivisor_0 : decode cX6_commonDivisor 0 = .ok (.lload_n 0, 1) := by decide +kernel
theorem dX6_commonDivisor_1 : decode cX6_commonDivisor 1 = .ok (.lstore 4, 2) := by decide +kernel
theorem dX6_commonDivisor_3 : decode cX6_commonDivisor 3 = .ok (.lload_n 2, 1) := by decide +kernel
theorem dX6_commonDivisor_4 : decode cX6_commonDivisor 4 = .ok (.lstore 6, 2) := by decide +kernel
theorem dX6_commonDivisor_6 : decode cX6_commonDivisor 6 = .ok (.iconst 0, 1) := by decide +kernel
theorem dX6_commonDivisor_7 : decode cX6_commonDivisor 7 = .ok (.istore 8, 2) := by decide +kernel
theorem dX6_commonDivisor_9 : decode cX6_commonDivisor 9 = .ok (.iload 8, 2) := by decide +kernel
theorem dX6_commonDivisor_11 : decode cX6_commonDivisor 11 = .ok (.bipush 100, 2) := by decide +kernel
theorem dX6_commonDivisor_13 : decode cX6_commonDivisor 13 = .ok (.if_icmp .ge 31, 3) := by decide +kernel
theorem dX6_commonDivisor_16 : decode cX6_commonDivisor 16 = .ok (.lload 6, 2) := by decide +kernel
theorem dX6_commonDivisor_18 : decode cX6_commonDivisor 18 = .ok (.lconst 0, 1) := by decide +kernel
theorem dX6_commonDivisor_19 : decode cX6_commonDivisor 19 = .ok (.lcmp, 1) := by decide +kernel
theorem dX6_commonDivisor_20 : decode cX6_commonDivisor 20 = .ok (.ifCond .eq 24, 3) := by decide +kernel
theorem dX6_commonDivisor_23 : decode cX6_commonDivisor 23 = .ok (.lload 4, 2) := by decide +kernel
theorem dX6_commonDivisor_25 : decode cX6_commonDivisor 25 = .ok (.lload 6, 2) := by decide +kernel
theorem dX6_commonDivisor_27 : decode cX6_commonDivisor 27 = .ok (.lrem, 1) := by decide +kernel
theorem dX6_commonDivisor_28 : decode cX6_commonDivisor 28 = .ok (.lstore 9, 2) := by decide +kernel
theorem dX6_commonDivisor_30 : decode cX6_commonDivisor 30 = .ok (.lload 6, 2) := by decide +kernel
theorem dX6_commonDivisor_32 : decode cX6_commonDivisor 32 = .ok (.lstore 4, 2) := by decide +kernel
theorem dX6_commonDivisor_34 : decode cX6_commonDivisor 34 = .ok (.lload 9, 2) := by decide +kernel
theorem dX6_commonDivisor_36 : decode cX6_commonDivisor 36 = .ok (.lstore 6, 2) := by decide +kernel
theorem dX6_commonDivisor_38 : decode cX6_commonDivisor 38 = .ok (.iinc 8 1, 3) := by decide +kernel
theorem dX6_commonDivisor_41 : decode cX6_commonDivisor 41 = .ok (.goto (-32), 3) := by decide +kernel
theorem dX6_commonDivisor_44 : decode cX6_commonDivisor 44 = .ok (.lload 4, 2) := by decide +kernel
theorem dX6_commonDivisor_46 : decode cX6_commonDivisor 46 = .ok (.lreturn, 1) := by decide +kernel
theorem dX7_init_0 : decode cX7_init 0 = .ok (.aload_n 0, 1) := by decide +kernel
theorem dX7_init_1 : decode cX7_init 1 = .ok (.invokespecial 1, 3) := by decide +kernel
theorem dX7_init_4 : decode cX7_init 4 = .ok (.aload_n 0, 1) := by decide +kernel
theorem dX7_init_5 : decode cX7_init 5 = .ok (.bipush 80, 2) := by decide +kernel
theorem dX7_init_7 : decode cX7_init 7 = .ok (.newarray .int, 2) := by decide +kernel
theorem dX7_init_9 : decode cX7_init 9 = .ok (.putfield 7, 3) := by decide +kernel
theorem dX7_init_12 : decode cX7_init 12 = .ok (.aload_n 0, 1) := by decide +kernel
theorem dX7_init_13 : decode cX7_init 13 = .ok (.bipush 8, 2) := by decide +kernel
theorem dX7_init_15 : decode cX7_init 15 = .ok (.newarray .int, 2) := by decide +kernel
theorem dX7_init_17 : decode cX7_init 17 = .ok (.putfield 13, 3) := by decide +kernel
theorem dX7_init_20 : decode cX7_init 20 = .ok (.aload_n 0, 1) := by decide +kernel
theorem dX7_init_21 : decode cX7_init 21 = .ok (.bipush 8, 2) := by decide +kernel
theorem dX7_init_23 : decode cX7_init 23 = .ok (.newarray .int, 2) := by decide +kernel
theorem dX7_init_25 : decode cX7_init 25 = .ok (.putfield 16, 3) := by decide +kernel
theorem dX7_init_28 : decode cX7_init 28 = .ok (.aload_n 0, 1) := by decide +kernel
theorem dX7_init_29 : decode cX7_init 29 = .ok (.bipush 8, 2) := by decide +kernel
theorem dX7_init_31 : decode cX7_init 31 = .ok (.newarray .int, 2) := by decide +kernel
theorem dX7_init_33 : decode cX7_init 33 = .ok (.putfield 19, 3) := by decide +kernel
theorem dX7_init_36 : decode cX7_init 36 = .ok (.aload_n 0, 1) := by decide +kernel
theorem dX7_init_37 : decode cX7_init 37 = .ok (.bipush 8, 2) := by decide +kernel
theorem dX7_init_39 : decode cX7_init 39 = .ok (.newarray .int, 2) := by decide +kernel
theorem dX7_init_41 : decode cX7_init 41 = .ok (.putfield 22, 3) := by decide +kernel
theorem dX7_init_44 : decode cX7_init 44 = .ok (.aload_n 0, 1) := by decide +kernel
theorem dX7_init_45 : decode cX7_init 45 = .ok (.bipush 8, 2) := by decide +kernel
theorem dX7_init_47 : decode cX7_init 47 = .ok (.newarray .int, 2) := by decide +kernel
theorem dX7_init_49 : decode cX7_init 49 = .ok (.putfield 25, 3) := by decide +kernel
theorem dX7_init_52 : decode cX7_init 52 = .ok (.aload_n 0, 1) := by decide +kernel
theorem dX7_init_53 : decode cX7_init 53 = .ok (.iconst 5, 1) := by decide +kernel
theorem dX7_init_54 : decode cX7_init 54 = .ok (.newarray .int, 2) := by decide +kernel
theorem dX7_init_56 : decode cX7_init 56 = .ok (.putfield 28, 3) := by decide +kernel
theorem dX7_init_59 : decode cX7_init 59 = .ok (.aload_n 0, 1) := by decide +kernel
theorem dX7_init_60 : decode cX7_init 60 = .ok (.iconst 5, 1) := by decide +kernel
theorem dX7_init_61 : decode cX7_init 61 = .ok (.newarray .int, 2) := by decide +kernel
theorem dX7_init_63 : decode cX7_init 63 = .ok (.putfield 31, 3) := by decide +kernel
theorem dX7_init_66 : decode cX7_init 66 = .ok (.aload_n 0, 1) := by decide +kernel
theorem dX7_init_67 : decode cX7_init 67 = .ok (.bipush 40, 2) := by decide +kernel
theorem dX7_init_69 : decode cX7_init 69 = .ok (.newarray .int, 2) := by decide +kernel
theorem dX7_init_71 : decode cX7_init 71 = .ok (.putfield 34, 3) := by decide +kernel
theorem dX7_init_74 : decode cX7_init 74 = .ok (.aload_n 0, 1) := by decide +kernel
theorem dX7_init_75 : decode cX7_init 75 = .ok (.bipush 10, 2) := by decide +kernel
theorem dX7_init_77 : decode cX7_init 77 = .ok (.newarray .int, 2) := by decide +kernel
theorem dX7_init_79 : decode cX7_init 79 = .ok (.putfield 37, 3) := by decide +kernel
theorem dX7_init_82 : decode cX7_init 82 = .ok (.aload_n 0, 1) := by decide +kernel
theorem dX7_init_83 : decode cX7_init 83 = .ok (.sipush 420, 3) := by decide +kernel
theorem dX7_init_86 : decode cX7_init 86 = .ok (.newarray .int, 2) := by decide +kernel
theorem dX7_init_88 : decode cX7_init 88 = .ok (.putfield 40, 3) := by decide +kernel
theorem dX7_init_91 : decode cX7_init 91 = .ok (.aload_n 0, 1) := by decide +kernel
theorem dX7_init_92 : decode cX7_init 92 = .ok (.bipush 90, 2) := by decide +kernel
theorem dX7_init_94 : decode cX7_init 94 = .ok (.newarray .int, 2) := by decide +kernel
theorem dX7_init_96 : decode cX7_init 96 = .ok (.putfield 43, 3) := by decide +kernel
theorem dX7_init_99 : decode cX7_init 99 = .ok (.aload_n 0, 1) := by decide +kernel
theorem dX7_init_100 : decode cX7_init 100 = .ok (.iconst 2, 1) := by decide +kernel
theorem dX7_init_101 : decode cX7_init 101 = .ok (.newarray .boolean, 2) := by decide +kernel
theorem dX7_init_103 : decode cX7_init 103 = .ok (.putfield 46, 3) := by decide +kernel
theorem dX7_init_106 : decode cX7_init 106 = .ok (.aload_n 0, 1) := by decide +kernel
theorem dX7_init_107 : decode cX7_init 107 = .ok (.bipush 6, 2) := by decide +kernel
theorem dX7_init_109 : decode cX7_init 109 = .ok (.newarray .int, 2) := by decide +kernel
theorem dX7_init_111 : decode cX7_init 111 = .ok (.putfield 50, 3) := by decide +kernel
theorem dX7_init_114 : decode cX7_init 114 = .ok (.aload_n 0, 1) := by decide +kernel
theorem dX7_init_115 : decode cX7_init 115 = .ok (.bipush 6, 2) := by decide +kernel
theorem dX7_init_117 : decode cX7_init 117 = .ok (.newarray .int, 2) := by decide +kernel
theorem dX7_init_119 : decode cX7_init 119 = .ok (.putfield 53, 3) := by decide +kernel
theorem dX7_init_122 : decode cX7_init 122 = .ok (.aload_n 0, 1) := by decide +kernel
theorem dX7_init_123 : decode cX7_init 123 = .ok (.bipush 8, 2) := by decide +kernel
theorem dX7_init_125 : decode cX7_init 125 = .ok (.newarray .int, 2) := by decide +kernel
theorem dX7_init_127 : decode cX7_init 127 = .ok (.putfield 56, 3) := by decide +kernel
theorem dX7_init_130 : decode cX7_init 130 = .ok (.aload_n 0, 1) := by decide +kernel
theorem dX7_init_131 : decode cX7_init 131 = .ok (.bipush 8, 2) := by decide +kernel
theorem dX7_init_133 : decode cX7_init 133 = .ok (.newarray .int, 2) := by decide +kernel
theorem dX7_init_135 : decode cX7_init 135 = .ok (.putfield 59, 3) := by decide +kernel
theorem dX7_init_138 : decode cX7_init 138 = .ok (.aload_n 0, 1) := by decide +kernel
theorem dX7_init_139 : decode cX7_init 139 = .ok (.bipush 10, 2) := by decide +kernel
theorem dX7_init_141 : decode cX7_init 141 = .ok (.newarray .int, 2) := by decide +kernel
theorem dX7_init_143 : decode cX7_init 143 = .ok (.putfield 62, 3) := by decide +kernel
theorem dX7_init_146 : decode cX7_init 146 = .ok (.aload_n 0, 1) := by decide +kernel
theorem dX7_init_147 : decode cX7_init 147 = .ok (.iconst 4, 1) := by decide +kernel
theorem dX7_init_148 : decode cX7_init 148 = .ok (.newarray .int, 2) := by decide +kernel
theorem dX7_init_150 : decode cX7_init 150 = .ok (.putfield 65, 3) := by decide +kernel
theorem dX7_init_153 : decode cX7_init 153 = .ok (.aload_n 0, 1) := by decide +kernel
theorem dX7_init_154 : decode cX7_init 154 = .ok (.iconst 4, 1) := by decide +kernel
theorem dX7_init_155 : decode cX7_init 155 = .ok (.newarray .int, 2) := by decide +kernel
theorem dX7_init_157 : decode cX7_init 157 = .ok (.putfield 68, 3) := by decide +kernel
theorem dX7_init_160 : decode cX7_init 160 = .ok (.return_, 1) := by decide +kernel
theorem dX7_in_0 : decode cX7_in 0 = .ok (.lload_n 0, 1) := by decide +kernel
theorem dX7_in_1 : decode cX7_in 1 = .ok (.lload_n 2, 1) := by decide +kernel
theorem dX7_in_2 : decode cX7_in 2 = .ok (.lcmp, 1) := by decide +kernel
theorem dX7_in_3 : decode cX7_in 3 = .ok (.ifCond .lt 14, 3) := by decide +kernel
theorem dX7_in_6 : decode cX7_in 6 = .ok (.lload_n 0, 1) := by decide +kernel
theorem dX7_in_7 : decode cX7_in 7 = .ok (.lload 4, 2) := by decide +kernel
theorem dX7_in_9 : decode cX7_in 9 = .ok (.lcmp, 1) := by decide +kernel
theorem dX7_in_10 : decode cX7_in 10 = .ok (.ifCond .gt 7, 3) := by decide +kernel
theorem dX7_in_13 : decode cX7_in 13 = .ok (.iconst 1, 1) := by decide +kernel
theorem dX7_in_14 : decode cX7_in 14 = .ok (.goto 4, 3) := by decide +kernel
theorem dX7_in_17 : decode cX7_in 17 = .ok (.iconst 0, 1) := by decide +kernel
theorem dX7_in_18 : decode cX7_in 18 = .ok (.ireturn, 1) := by decide +kernel
theorem dX7_has_0 : decode cX7_has 0 = .ok (.iload_n 0, 1) := by decide +kernel
theorem dX7_has_1 : decode cX7_has 1 = .ok (.iload_n 1, 1) := by decide +kernel
theorem dX7_has_2 : decode cX7_has 2 = .ok (.ishr, 1) := by decide +kernel
theorem dX7_has_3 : decode cX7_has 3 = .ok (.iconst 1, 1) := by decide +kernel
theorem dX7_has_4 : decode cX7_has 4 = .ok (.iand, 1) := by decide +kernel
theorem dX7_has_5 : decode cX7_has 5 = .ok (.iconst 1, 1) := by decide +kernel
theorem dX7_has_6 : decode cX7_has 6 = .ok (.if_icmp .ne 7, 3) := by decide +kernel
theorem dX7_has_9 : decode cX7_has 9 = .ok (.iconst 1, 1) := by decide +kernel
theorem dX7_has_10 : decode cX7_has 10 = .ok (.goto 4, 3) := by decide +kernel
theorem dX7_has_13 : decode cX7_has 13 = .ok (.iconst 0, 1) := by decide +kernel
theorem dX7_has_14 : decode cX7_has 14 = .ok (.ireturn, 1) := by decide +kernel
set_option maxRecDepth 20000 in
theorem ggX7_noRing_X7_in : GoodIn wsX7_noRing wsX7_in := goodIn_r _ [5] (by decide +kernel) (by decide +kernel)
set_option maxRecDepth 20000 in
theorem gX7_noRing_X7_in : GoodIn wsX7_noRing (va_wsS RX7 78 yX7_in wsX7_in) := goodIn_app (goodIn_of _ (by decide +kernel)) ggX7_noRing_X7_in
theorem dX7_noRing_0 : decode cX7_noRing 0 = .ok (.iload_n 1, 1) := by decide +kernel
theorem dX7_noRing_1 : decode cX7_noRing 1 = .ok (.i2l, 1) := by decide +kernel
theorem dX7_noRing_2 : decode cX7_noRing 2 = .ok (.lconst 0, 1) := by decide +kernel
theorem dX7_noRing_3 : decode cX7_noRing 3 = .ok (.aload_n 0, 1) := by decide +kernel
theorem dX7_noRing_4 : decode cX7_noRing 4 = .ok (.getfield 75, 3) := by decide +kernel
theorem dX7_noRing_7 : decode cX7_noRing 7 = .ok (.iconst 1, 1) := by decide +kernel
theorem dX7_noRing_8 : decode cX7_noRing 8 = .ok (.isub, 1) := by decide +kernel
theorem dX7_noRing_9 : decode cX7_noRing 9 = .ok (.i2l, 1) := by decide +kernel
theorem dX7_noRing_10 : decode cX7_noRing 10 = .ok (.invokestatic 78, 3) := by decide +kernel
theorem dX7_noRing_13 : decode cX7_noRing 13 = .ok (.ifCond .ne 7, 3) := by decide +kernel
theorem dX7_noRing_16 : decode cX7_noRing 16 = .ok (.iconst 1, 1) := by decide +kernel
theorem dX7_noRing_17 : decode cX7_noRing 17 = .ok (.goto 4, 3) := by decide +kernel
theorem dX7_noRing_20 : decode cX7_noRing 20 = .ok (.iconst 0, 1) := by decide +kernel
theorem dX7_noRing_21 : decode cX7_noRing 21 = .ok (.ireturn, 1) := by decide +kernel
set_option maxRecDepth 20000 in
theorem ggX7_write_X7_in : GoodIn wsX7_write wsX7_in := goodIn_r _ [8] (by decide +kernel) (by decide +kernel)
set_option maxRecDepth 20000 in
theorem gX7_write_X7_in : GoodIn wsX7_write (va_wsS RX7 78 yX7_in wsX7_in) := goodIn_app (goodIn_of _ (by decide +kernel)) ggX7_write_X7_in
theorem dX7_write_0 : decode cX7_write 0 = .ok (.aload_n 0, 1) := by decide +kernel
theorem dX7_write_1 : decode cX7_write 1 = .ok (.iconst 0, 1) := by decide +kernel
theorem dX7_write_2 : decode cX7_write 2 = .ok (.putfield 71, 3) := by decide +kernel
theorem dX7_write_5 : decode cX7_write 5 = .ok (.iload_n 1, 1) := by decide +kernel
theorem dX7_write_6 : decode cX7_write 6 = .ok (.i2l, 1) := by decide +kernel
theorem dX7_write_7 : decode cX7_write 7 = .ok (.lconst 1, 1) := by decide +kernel
theorem dX7_write_8 : decode cX7_write 8 = .ok (.ldc2_w 82, 3) := by decide +kernel
theorem dX7_write_11 : decode cX7_write 11 = .ok (.invokestatic 78, 3) := by decide +kernel
theorem dX7_write_14 : decode cX7_write 14 = .ok (.ifCond .ne 6, 3) := by decide +kernel
theorem dX7_write_17 : decode cX7_write 17 = .ok (.bipush (-2), 2) := by decide +kernel
theorem dX7_write_19 : decode cX7_write 19 = .ok (.ireturn, 1) := by decide +kernel
theorem dX7_write_20 : decode cX7_write 20 = .ok (.aload_n 0, 1) := by decide +kernel
theorem dX7_write_21 : decode cX7_write 21 = .ok (.getfield 84, 3) := by decide +kernel
theorem dX7_write_24 : decode cX7_write 24 = .ok (.iload_n 1, 1) := by decide +kernel
theorem dX7_write_25 : decode cX7_write 25 = .ok (.iadd, 1) := by decide +kernel
theorem dX7_write_26 : decode cX7_write 26 = .ok (.bipush 80, 2) := by decide +kernel
theorem dX7_write_28 : decode cX7_write 28 = .ok (.if_icmp .le 6, 3) := by decide +kernel
theorem dX7_write_31 : decode cX7_write 31 = .ok (.bipush (-4), 2) := by decide +kernel
theorem dX7_write_33 : decode cX7_write 33 = .ok (.ireturn, 1) := by decide +kernel
theorem dX7_write_34 : decode cX7_write 34 = .ok (.iload_n 1, 1) := by decide +kernel
theorem dX7_write_35 : decode cX7_write 35 = .ok (.iconst 1, 1) := by decide +kernel
theorem dX7_write_36 : decode cX7_write 36 = .ok (.isub, 1) := by decide +kernel
theorem dX7_write_37 : decode cX7_write 37 = .ok (.istore 4, 2) := by decide +kernel
theorem dX7_write_39 : decode cX7_write 39 = .ok (.iload 4, 2) := by decide +kernel
theorem dX7_write_41 : decode cX7_write 41 = .ok (.ifCond .lt 40, 3) := by decide +kernel
theorem dX7_write_44 : decode cX7_write 44 = .ok (.aload_n 0, 1) := by decide +kernel
theorem dX7_write_45 : decode cX7_write 45 = .ok (.getfield 7, 3) := by decide +kernel
theorem dX7_write_48 : decode cX7_write 48 = .ok (.aload_n 0, 1) := by decide +kernel
theorem dX7_write_49 : decode cX7_write 49 = .ok (.getfield 84, 3) := by decide +kernel
theorem dX7_write_52 : decode cX7_write 52 = .ok (.lload_n 2, 1) := by decide +kernel
theorem dX7_write_53 : decode cX7_write 53 = .ok (.bipush 8, 2) := by decide +kernel
theorem dX7_write_55 : decode cX7_write 55 = .ok (.iload 4, 2) := by decide +kernel
theorem dX7_write_57 : decode cX7_write 57 = .ok (.imul, 1) := by decide +kernel
theorem dX7_write_58 : decode cX7_write 58 = .ok (.lshr, 1) := by decide +kernel
theorem dX7_write_59 : decode cX7_write 59 = .ok (.l2i, 1) := by decide +kernel
theorem dX7_write_60 : decode cX7_write 60 = .ok (.sipush 255, 3) := by decide +kernel
theorem dX7_write_63 : decode cX7_write 63 = .ok (.iand, 1) := by decide +kernel
theorem dX7_write_64 : decode cX7_write 64 = .ok (.iastore, 1) := by decide +kernel
theorem dX7_write_65 : decode cX7_write 65 = .ok (.aload_n 0, 1) := by decide +kernel
theorem dX7_write_66 : decode cX7_write 66 = .ok (.dup, 1) := by decide +kernel
theorem dX7_write_67 : decode cX7_write 67 = .ok (.getfield 84, 3) := by decide +kernel
theorem dX7_write_70 : decode cX7_write 70 = .ok (.iconst 1, 1) := by decide +kernel
theorem dX7_write_71 : decode cX7_write 71 = .ok (.iadd, 1) := by decide +kernel
theorem dX7_write_72 : decode cX7_write 72 = .ok (.putfield 84, 3) := by decide +kernel
theorem dX7_write_75 : decode cX7_write 75 = .ok (.iinc 4 (-1), 3) := by decide +kernel
theorem dX7_write_78 : decode cX7_write 78 = .ok (.goto (-39), 3) := by decide +kernel
theorem dX7_write_81 : decode cX7_write 81 = .ok (.aload_n 0, 1) := by decide +kernel
theorem dX7_write_82 : decode cX7_write 82 = .ok (.getfield 84, 3) := by decide +kernel
theorem dX7_write_85 : decode cX7_write 85 = .ok (.ireturn, 1) := by decide +kernel
theorem dX7_wipe_0 : decode cX7_wipe 0 = .ok (.aload_n 0, 1) := by decide +kernel
theorem dX7_wipe_1 : decode cX7_wipe 1 = .ok (.iconst 0, 1) := by decide +kernel
theorem dX7_wipe_2 : decode cX7_wipe 2 = .ok (.putfield 71, 3) := by decide +kernel
theorem dX7_wipe_5 : decode cX7_wipe 5 = .ok (.aload_n 0, 1) := by decide +kernel
theorem dX7_wipe_6 : decode cX7_wipe 6 = .ok (.getfield 84, 3) := by decide +kernel
theorem dX7_wipe_9 : decode cX7_wipe 9 = .ok (.istore_n 1, 1) := by decide +kernel
theorem dX7_wipe_10 : decode cX7_wipe 10 = .ok (.aload_n 0, 1) := by decide +kernel
theorem dX7_wipe_11 : decode cX7_wipe 11 = .ok (.iconst 0, 1) := by decide +kernel
theorem dX7_wipe_12 : decode cX7_wipe 12 = .ok (.putfield 84, 3) := by decide +kernel
theorem dX7_wipe_15 : decode cX7_wipe 15 = .ok (.iload_n 1, 1) := by decide +kernel
theorem dX7_wipe_16 : decode cX7_wipe 16 = .ok (.ireturn, 1) := by decide +kernel
set_option maxRecDepth 20000 in
theorem ggX7_figure_X7_in : GoodIn wsX7_figure wsX7_in := goodIn_r _ [7] (by decide +kernel) (by decide +kernel)
set_option maxRecDepth 20000 in
theorem gX7_figure_X7_in : GoodIn wsX7_figure (va_wsS RX7 78 yX7_in wsX7_in) := goodIn_app (goodIn_of _ (by decide +kernel)) ggX7_figure_X7_in
theorem dX7_figure_0 : decode cX7_figure 0 = .ok (.aload_n 0, 1) := by decide +kernel
theorem dX7_figure_1 : decode cX7_figure 1 = .ok (.getfield 87, 3) := by decide +kernel
theorem dX7_figure_4 : decode cX7_figure 4 = .ok (.aload_n 0, 1) := by decide +kernel
theorem dX7_figure_5 : decode cX7_figure 5 = .ok (.getfield 84, 3) := by decide +kernel
theorem dX7_figure_8 : decode cX7_figure 8 = .ok (.if_icmp .eq 26, 3) := by decide +kernel
theorem dX7_figure_11 : decode cX7_figure 11 = .ok (.aload_n 0, 1) := by decide +kernel
theorem dX7_figure_12 : decode cX7_figure 12 = .ok (.getfield 7, 3) := by decide +kernel
theorem dX7_figure_15 : decode cX7_figure 15 = .ok (.aload_n 0, 1) := by decide +kernel
theorem dX7_figure_16 : decode cX7_figure 16 = .ok (.getfield 87, 3) := by decide +kernel
theorem dX7_figure_19 : decode cX7_figure 19 = .ok (.iaload, 1) := by decide +kernel
theorem dX7_figure_20 : decode cX7_figure 20 = .ok (.bipush 48, 2) := by decide +kernel
theorem dX7_figure_22 : decode cX7_figure 22 = .ok (.isub, 1) := by decide +kernel
theorem dX7_figure_23 : decode cX7_figure 23 = .ok (.i2l, 1) := by decide +kernel
theorem dX7_figure_24 : decode cX7_figure 24 = .ok (.iload_n 1, 1) := by decide +kernel
theorem dX7_figure_25 : decode cX7_figure 25 = .ok (.i2l, 1) := by decide +kernel
theorem dX7_figure_26 : decode cX7_figure 26 = .ok (.iload_n 2, 1) := by decide +kernel
theorem dX7_figure_27 : decode cX7_figure 27 = .ok (.i2l, 1) := by decide +kernel
theorem dX7_figure_28 : decode cX7_figure 28 = .ok (.invokestatic 78, 3) := by decide +kernel
theorem dX7_figure_31 : decode cX7_figure 31 = .ok (.ifCond .ne 6, 3) := by decide +kernel
theorem dX7_figure_34 : decode cX7_figure 34 = .ok (.bipush (-9), 2) := by decide +kernel
theorem dX7_figure_36 : decode cX7_figure 36 = .ok (.ireturn, 1) := by decide +kernel
theorem dX7_figure_37 : decode cX7_figure 37 = .ok (.aload_n 0, 1) := by decide +kernel
theorem dX7_figure_38 : decode cX7_figure 38 = .ok (.dup, 1) := by decide +kernel
theorem dX7_figure_39 : decode cX7_figure 39 = .ok (.getfield 87, 3) := by decide +kernel
theorem dX7_figure_42 : decode cX7_figure 42 = .ok (.iconst 1, 1) := by decide +kernel
theorem dX7_figure_43 : decode cX7_figure 43 = .ok (.iadd, 1) := by decide +kernel
theorem dX7_figure_44 : decode cX7_figure 44 = .ok (.putfield 87, 3) := by decide +kernel
theorem dX7_figure_47 : decode cX7_figure 47 = .ok (.aload_n 0, 1) := by decide +kernel
theorem dX7_figure_48 : decode cX7_figure 48 = .ok (.getfield 7, 3) := by decide +kernel
theorem dX7_figure_51 : decode cX7_figure 51 = .ok (.aload_n 0, 1) := by decide +kernel
theorem dX7_figure_52 : decode cX7_figure 52 = .ok (.getfield 87, 3) := by decide +kernel
theorem dX7_figure_55 : decode cX7_figure 55 = .ok (.iconst 1, 1) := by decide +kernel
theorem dX7_figure_56 : decode cX7_figure 56 = .ok (.isub, 1) := by decide +kernel
theorem dX7_figure_57 : decode cX7_figure 57 = .ok (.iaload, 1) := by decide +kernel
theorem dX7_figure_58 : decode cX7_figure 58 = .ok (.bipush 48, 2) := by decide +kernel
theorem dX7_figure_60 : decode cX7_figure 60 = .ok (.isub, 1) := by decide +kernel
theorem dX7_figure_61 : decode cX7_figure 61 = .ok (.ireturn, 1) := by decide +kernel
theorem dX7_isTold_0 : decode cX7_isTold 0 = .ok (.iconst 0, 1) := by decide +kernel
theorem dX7_isTold_1 : decode cX7_isTold 1 = .ok (.istore_n 2, 1) := by decide +kernel
theorem dX7_isTold_2 : decode cX7_isTold 2 = .ok (.iconst 0, 1) := by decide +kernel
theorem dX7_isTold_3 : decode cX7_isTold 3 = .ok (.istore_n 3, 1) := by decide +kernel
theorem dX7_isTold_4 : decode cX7_isTold 4 = .ok (.iload_n 3, 1) := by decide +kernel
theorem dX7_isTold_5 : decode cX7_isTold 5 = .ok (.aload_n 0, 1) := by decide +kernel
theorem dX7_isTold_6 : decode cX7_isTold 6 = .ok (.getfield 90, 3) := by decide +kernel
theorem dX7_isTold_9 : decode cX7_isTold 9 = .ok (.if_icmp .ge 33, 3) := by decide +kernel
theorem dX7_isTold_12 : decode cX7_isTold 12 = .ok (.iload_n 2, 1) := by decide +kernel
theorem dX7_isTold_13 : decode cX7_isTold 13 = .ok (.ifCond .ne 17, 3) := by decide +kernel
theorem dX7_isTold_16 : decode cX7_isTold 16 = .ok (.aload_n 0, 1) := by decide +kernel
theorem dX7_isTold_17 : decode cX7_isTold 17 = .ok (.getfield 34, 3) := by decide +kernel
theorem dX7_isTold_20 : decode cX7_isTold 20 = .ok (.iconst 5, 1) := by decide +kernel
theorem dX7_isTold_21 : decode cX7_isTold 21 = .ok (.iload_n 3, 1) := by decide +kernel
theorem dX7_isTold_22 : decode cX7_isTold 22 = .ok (.imul, 1) := by decide +kernel
theorem dX7_isTold_23 : decode cX7_isTold 23 = .ok (.iconst 1, 1) := by decide +kernel
theorem dX7_isTold_24 : decode cX7_isTold 24 = .ok (.iadd, 1) := by decide +kernel
theorem dX7_isTold_25 : decode cX7_isTold 25 = .ok (.iaload, 1) := by decide +kernel
theorem dX7_isTold_26 : decode cX7_isTold 26 = .ok (.iload_n 1, 1) := by decide +kernel
theorem dX7_isTold_27 : decode cX7_isTold 27 = .ok (.if_icmp .ne 7, 3) := by decide +kernel
theorem dX7_isTold_30 : decode cX7_isTold 30 = .ok (.iconst 1, 1) := by decide +kernel
theorem dX7_isTold_31 : decode cX7_isTold 31 = .ok (.goto 4, 3) := by decide +kernel
theorem dX7_isTold_34 : decode cX7_isTold 34 = .ok (.iconst 0, 1) := by decide +kernel
theorem dX7_isTold_35 : decode cX7_isTold 35 = .ok (.istore_n 2, 1) := by decide +kernel
theorem dX7_isTold_36 : decode cX7_isTold 36 = .ok (.iinc 3 1, 3) := by decide +kernel
theorem dX7_isTold_39 : decode cX7_isTold 39 = .ok (.goto (-35), 3) := by decide +kernel
theorem dX7_isTold_42 : decode cX7_isTold 42 = .ok (.iload_n 2, 1) := by decide +kernel
theorem dX7_isTold_43 : decode cX7_isTold 43 = .ok (.ireturn, 1) := by decide +kernel
set_option maxRecDepth 20000 in
theorem ggX7_readRing_X7_figure : GoodIn wsX7_readRing wsX7_figure := goodIn_r _ [10, 1, 2, 3, 11, 12, 9, 13, 18, 19, 20, 21, 22, 23, 24, 25, 26, 27, 28, 29, 30, 31, 32, 33, 34, 35, 36, 37, 38, 39, 40, 41, 42, 43, 44, 45, 46, 47, 48, 49, 50, 51, 52, 53, 54, 55, 56, 57] (by decide +kernel) (by decide +kernel)
set_option maxRecDepth 20000 in
theorem gX7_readRing_X7_figure : GoodIn wsX7_readRing (wsV RX7 93 RX7 yX7_figure wsX7_figure) := goodIn_app (goodIn_of _ (by decide +kernel)) ggX7_readRing_X7_figure
set_option maxRecDepth 20000 in
theorem ggX7_readRing_X7_isTold : GoodIn wsX7_readRing wsX7_isTold := goodIn_r _ [17, 4, 5, 18, 19, 20, 21, 22, 23, 24, 25, 26, 27, 28, 29, 30, 31, 32, 33, 34, 35, 36, 37, 38, 39, 40, 41, 42, 43, 44, 45, 46, 47, 48, 49, 50, 51, 52, 53, 54, 55, 56, 57] (by decide +kernel) (by decide +kernel)
set_option maxRecDepth 20000 in
theorem gX7_readRing_X7_isTold : GoodIn wsX7_readRing (wsV RX7 97 RX7 yX7_isTold wsX7_isTold) := goodIn_app (goodIn_of _ (by decide +kernel)) ggX7_readRing_X7_isTold
theorem dX7_readRing_0 : decode cX7_readRing 0 = .ok (.aload_n 0, 1) := by decide +kernel
theorem dX7_readRing_1 : decode cX7_readRing 1 = .ok (.iconst 0, 1) := by decide +kernel
theorem dX7_readRing_2 : decode cX7_readRing 2 = .ok (.iconst 4, 1) := by decide +kernel
theorem dX7_readRing_3 : decode cX7_readRing 3 = .ok (.invokevirtual 93, 3) := by decide +kernel
theorem dX7_readRing_6 : decode cX7_readRing 6 = .ok (.istore_n 1, 1) := by decide +kernel
theorem dX7_readRing_7 : decode cX7_readRing 7 = .ok (.iload_n 1, 1) := by decide +kernel
theorem dX7_readRing_8 : decode cX7_readRing 8 = .ok (.bipush (-9), 2) := by decide +kernel
theorem dX7_readRing_10 : decode cX7_readRing 10 = .ok (.if_icmp .ne 8, 3) := by decide +kernel
theorem dX7_readRing_13 : decode cX7_readRing 13 = .ok (.bipush (-9), 2) := by decide +kernel
theorem dX7_readRing_15 : decode cX7_readRing 15 = .ok (.goto 10, 3) := by decide +kernel
theorem dX7_readRing_18 : decode cX7_readRing 18 = .ok (.aload_n 0, 1) := by decide +kernel
theorem dX7_readRing_19 : decode cX7_readRing 19 = .ok (.iconst 0, 1) := by decide +kernel
theorem dX7_readRing_20 : decode cX7_readRing 20 = .ok (.bipush 9, 2) := by decide +kernel
theorem dX7_readRing_22 : decode cX7_readRing 22 = .ok (.invokevirtual 93, 3) := by decide +kernel
theorem dX7_readRing_25 : decode cX7_readRing 25 = .ok (.istore_n 2, 1) := by decide +kernel
theorem dX7_readRing_26 : decode cX7_readRing 26 = .ok (.iload_n 2, 1) := by decide +kernel
theorem dX7_readRing_27 : decode cX7_readRing 27 = .ok (.bipush (-9), 2) := by decide +kernel
theorem dX7_readRing_29 : decode cX7_readRing 29 = .ok (.if_icmp .eq 38, 3) := by decide +kernel
theorem dX7_readRing_32 : decode cX7_readRing 32 = .ok (.aload_n 0, 1) := by decide +kernel
theorem dX7_readRing_33 : decode cX7_readRing 33 = .ok (.getfield 87, 3) := by decide +kernel
theorem dX7_readRing_36 : decode cX7_readRing 36 = .ok (.aload_n 0, 1) := by decide +kernel
theorem dX7_readRing_37 : decode cX7_readRing 37 = .ok (.getfield 84, 3) := by decide +kernel
theorem dX7_readRing_40 : decode cX7_readRing 40 = .ok (.if_icmp .ge 32, 3) := by decide +kernel
theorem dX7_readRing_43 : decode cX7_readRing 43 = .ok (.aload_n 0, 1) := by decide +kernel
theorem dX7_readRing_44 : decode cX7_readRing 44 = .ok (.bipush 10, 2) := by decide +kernel
theorem dX7_readRing_46 : decode cX7_readRing 46 = .ok (.aload_n 0, 1) := by decide +kernel
theorem dX7_readRing_47 : decode cX7_readRing 47 = .ok (.getfield 7, 3) := by decide +kernel
theorem dX7_readRing_50 : decode cX7_readRing 50 = .ok (.aload_n 0, 1) := by decide +kernel
theorem dX7_readRing_51 : decode cX7_readRing 51 = .ok (.getfield 87, 3) := by decide +kernel
theorem dX7_readRing_54 : decode cX7_readRing 54 = .ok (.iaload, 1) := by decide +kernel
theorem dX7_readRing_55 : decode cX7_readRing 55 = .ok (.bipush 48, 2) := by decide +kernel
theorem dX7_readRing_57 : decode cX7_readRing 57 = .ok (.isub, 1) := by decide +kernel
theorem dX7_readRing_58 : decode cX7_readRing 58 = .ok (.imul, 1) := by decide +kernel
theorem dX7_readRing_59 : decode cX7_readRing 59 = .ok (.iload_n 2, 1) := by decide +kernel
theorem dX7_readRing_60 : decode cX7_readRing 60 = .ok (.iadd, 1) := by decide +kernel
theorem dX7_readRing_61 : decode cX7_readRing 61 = .ok (.invokevirtual 97, 3) := by decide +kernel
theorem dX7_readRing_64 : decode cX7_readRing 64 = .ok (.ifCond .eq 8, 3) := by decide +kernel
theorem dX7_readRing_67 : decode cX7_readRing 67 = .ok (.bipush (-9), 2) := by decide +kernel
theorem dX7_readRing_69 : decode cX7_readRing 69 = .ok (.goto 10, 3) := by decide +kernel
theorem dX7_readRing_72 : decode cX7_readRing 72 = .ok (.aload_n 0, 1) := by decide +kernel
theorem dX7_readRing_73 : decode cX7_readRing 73 = .ok (.iconst 0, 1) := by decide +kernel
theorem dX7_readRing_74 : decode cX7_readRing 74 = .ok (.bipush 9, 2) := by decide +kernel
theorem dX7_readRing_76 : decode cX7_readRing 76 = .ok (.invokevirtual 93, 3) := by decide +kernel
theorem dX7_readRing_79 : decode cX7_readRing 79 = .ok (.istore_n 3, 1) := by decide +kernel
theorem dX7_readRing_80 : decode cX7_readRing 80 = .ok (.iload_n 3, 1) := by decide +kernel
theorem dX7_readRing_81 : decode cX7_readRing 81 = .ok (.bipush (-9), 2) := by decide +kernel
theorem dX7_readRing_83 : decode cX7_readRing 83 = .ok (.if_icmp .ne 8, 3) := by decide +kernel
theorem dX7_readRing_86 : decode cX7_readRing 86 = .ok (.bipush (-9), 2) := by decide +kernel
theorem dX7_readRing_88 : decode cX7_readRing 88 = .ok (.goto 10, 3) := by decide +kernel
theorem dX7_readRing_91 : decode cX7_readRing 91 = .ok (.aload_n 0, 1) := by decide +kernel
theorem dX7_readRing_92 : decode cX7_readRing 92 = .ok (.iconst 1, 1) := by decide +kernel
theorem dX7_readRing_93 : decode cX7_readRing 93 = .ok (.bipush 9, 2) := by decide +kernel
theorem dX7_readRing_95 : decode cX7_readRing 95 = .ok (.invokevirtual 93, 3) := by decide +kernel
theorem dX7_readRing_98 : decode cX7_readRing 98 = .ok (.istore 4, 2) := by decide +kernel
theorem dX7_readRing_100 : decode cX7_readRing 100 = .ok (.iload 4, 2) := by decide +kernel
theorem dX7_readRing_102 : decode cX7_readRing 102 = .ok (.bipush (-9), 2) := by decide +kernel
theorem dX7_readRing_104 : decode cX7_readRing 104 = .ok (.if_icmp .ne 8, 3) := by decide +kernel
theorem dX7_readRing_107 : decode cX7_readRing 107 = .ok (.bipush (-9), 2) := by decide +kernel
theorem dX7_readRing_109 : decode cX7_readRing 109 = .ok (.goto 10, 3) := by decide +kernel
theorem dX7_readRing_112 : decode cX7_readRing 112 = .ok (.aload_n 0, 1) := by decide +kernel
theorem dX7_readRing_113 : decode cX7_readRing 113 = .ok (.iconst 1, 1) := by decide +kernel
theorem dX7_readRing_114 : decode cX7_readRing 114 = .ok (.bipush 9, 2) := by decide +kernel
theorem dX7_readRing_116 : decode cX7_readRing 116 = .ok (.invokevirtual 93, 3) := by decide +kernel
theorem dX7_readRing_119 : decode cX7_readRing 119 = .ok (.istore 5, 2) := by decide +kernel
theorem dX7_readRing_121 : decode cX7_readRing 121 = .ok (.iload 5, 2) := by decide +kernel
theorem dX7_readRing_123 : decode cX7_readRing 123 = .ok (.bipush (-9), 2) := by decide +kernel
theorem dX7_readRing_125 : decode cX7_readRing 125 = .ok (.if_icmp .ne 8, 3) := by decide +kernel
theorem dX7_readRing_128 : decode cX7_readRing 128 = .ok (.bipush (-9), 2) := by decide +kernel
theorem dX7_readRing_130 : decode cX7_readRing 130 = .ok (.goto 10, 3) := by decide +kernel
theorem dX7_readRing_133 : decode cX7_readRing 133 = .ok (.aload_n 0, 1) := by decide +kernel
theorem dX7_readRing_134 : decode cX7_readRing 134 = .ok (.iconst 0, 1) := by decide +kernel
theorem dX7_readRing_135 : decode cX7_readRing 135 = .ok (.bipush 9, 2) := by decide +kernel
theorem dX7_readRing_137 : decode cX7_readRing 137 = .ok (.invokevirtual 93, 3) := by decide +kernel
theorem dX7_readRing_140 : decode cX7_readRing 140 = .ok (.istore 6, 2) := by decide +kernel
theorem dX7_readRing_142 : decode cX7_readRing 142 = .ok (.iload 6, 2) := by decide +kernel
theorem dX7_readRing_144 : decode cX7_readRing 144 = .ok (.bipush (-9), 2) := by decide +kernel
theorem dX7_readRing_146 : decode cX7_readRing 146 = .ok (.if_icmp .ne 5, 3) := by decide +kernel
theorem dX7_readRing_149 : decode cX7_readRing 149 = .ok (.iconst 0, 1) := by decide +kernel
theorem dX7_readRing_150 : decode cX7_readRing 150 = .ok (.ireturn, 1) := by decide +kernel
theorem dX7_readRing_151 : decode cX7_readRing 151 = .ok (.iconst 5, 1) := by decide +kernel
theorem dX7_readRing_152 : decode cX7_readRing 152 = .ok (.aload_n 0, 1) := by decide +kernel
theorem dX7_readRing_153 : decode cX7_readRing 153 = .ok (.getfield 90, 3) := by decide +kernel
theorem dX7_readRing_156 : decode cX7_readRing 156 = .ok (.imul, 1) := by decide +kernel
theorem dX7_readRing_157 : decode cX7_readRing 157 = .ok (.istore 7, 2) := by decide +kernel
theorem dX7_readRing_159 : decode cX7_readRing 159 = .ok (.aload_n 0, 1) := by decide +kernel
theorem dX7_readRing_160 : decode cX7_readRing 160 = .ok (.getfield 34, 3) := by decide +kernel
theorem dX7_readRing_163 : decode cX7_readRing 163 = .ok (.iload 7, 2) := by decide +kernel
theorem dX7_readRing_165 : decode cX7_readRing 165 = .ok (.iload_n 1, 1) := by decide +kernel
theorem dX7_readRing_166 : decode cX7_readRing 166 = .ok (.iastore, 1) := by decide +kernel
theorem dX7_readRing_167 : decode cX7_readRing 167 = .ok (.aload_n 0, 1) := by decide +kernel
theorem dX7_readRing_168 : decode cX7_readRing 168 = .ok (.getfield 34, 3) := by decide +kernel
theorem dX7_readRing_171 : decode cX7_readRing 171 = .ok (.iload 7, 2) := by decide +kernel
theorem dX7_readRing_173 : decode cX7_readRing 173 = .ok (.iconst 1, 1) := by decide +kernel
theorem dX7_readRing_174 : decode cX7_readRing 174 = .ok (.iadd, 1) := by decide +kernel
theorem dX7_readRing_175 : decode cX7_readRing 175 = .ok (.bipush 10, 2) := by decide +kernel
theorem dX7_readRing_177 : decode cX7_readRing 177 = .ok (.iload_n 3, 1) := by decide +kernel
theorem dX7_readRing_178 : decode cX7_readRing 178 = .ok (.imul, 1) := by decide +kernel
theorem dX7_readRing_179 : decode cX7_readRing 179 = .ok (.iload_n 2, 1) := by decide +kernel
theorem dX7_readRing_180 : decode cX7_readRing 180 = .ok (.iadd, 1) := by decide +kernel
theorem dX7_readRing_181 : decode cX7_readRing 181 = .ok (.iastore, 1) := by decide +kernel
theorem dX7_readRing_182 : decode cX7_readRing 182 = .ok (.aload_n 0, 1) := by decide +kernel
theorem dX7_readRing_183 : decode cX7_readRing 183 = .ok (.getfield 34, 3) := by decide +kernel
theorem dX7_readRing_186 : decode cX7_readRing 186 = .ok (.iload 7, 2) := by decide +kernel
theorem dX7_readRing_188 : decode cX7_readRing 188 = .ok (.iconst 2, 1) := by decide +kernel
theorem dX7_readRing_189 : decode cX7_readRing 189 = .ok (.iadd, 1) := by decide +kernel
theorem dX7_readRing_190 : decode cX7_readRing 190 = .ok (.iload 4, 2) := by decide +kernel
theorem dX7_readRing_192 : decode cX7_readRing 192 = .ok (.iastore, 1) := by decide +kernel
theorem dX7_readRing_193 : decode cX7_readRing 193 = .ok (.aload_n 0, 1) := by decide +kernel
theorem dX7_readRing_194 : decode cX7_readRing 194 = .ok (.getfield 34, 3) := by decide +kernel
theorem dX7_readRing_197 : decode cX7_readRing 197 = .ok (.iload 7, 2) := by decide +kernel
theorem dX7_readRing_199 : decode cX7_readRing 199 = .ok (.iconst 3, 1) := by decide +kernel
theorem dX7_readRing_200 : decode cX7_readRing 200 = .ok (.iadd, 1) := by decide +kernel
theorem dX7_readRing_201 : decode cX7_readRing 201 = .ok (.iload 5, 2) := by decide +kernel
theorem dX7_readRing_203 : decode cX7_readRing 203 = .ok (.iastore, 1) := by decide +kernel
theorem dX7_readRing_204 : decode cX7_readRing 204 = .ok (.aload_n 0, 1) := by decide +kernel
theorem dX7_readRing_205 : decode cX7_readRing 205 = .ok (.getfield 34, 3) := by decide +kernel
theorem dX7_readRing_208 : decode cX7_readRing 208 = .ok (.iload 7, 2) := by decide +kernel
theorem dX7_readRing_210 : decode cX7_readRing 210 = .ok (.iconst 4, 1) := by decide +kernel
theorem dX7_readRing_211 : decode cX7_readRing 211 = .ok (.iadd, 1) := by decide +kernel
theorem dX7_readRing_212 : decode cX7_readRing 212 = .ok (.iload 6, 2) := by decide +kernel
theorem dX7_readRing_214 : decode cX7_readRing 214 = .ok (.iastore, 1) := by decide +kernel
theorem dX7_readRing_215 : decode cX7_readRing 215 = .ok (.aload_n 0, 1) := by decide +kernel
theorem dX7_readRing_216 : decode cX7_readRing 216 = .ok (.dup, 1) := by decide +kernel
theorem dX7_readRing_217 : decode cX7_readRing 217 = .ok (.getfield 90, 3) := by decide +kernel
theorem dX7_readRing_220 : decode cX7_readRing 220 = .ok (.iconst 1, 1) := by decide +kernel
theorem dX7_readRing_221 : decode cX7_readRing 221 = .ok (.iadd, 1) := by decide +kernel
theorem dX7_readRing_222 : decode cX7_readRing 222 = .ok (.putfield 90, 3) := by decide +kernel
theorem dX7_readRing_225 : decode cX7_readRing 225 = .ok (.iconst 1, 1) := by decide +kernel
theorem dX7_readRing_226 : decode cX7_readRing 226 = .ok (.ireturn, 1) := by decide +kernel
set_option maxRecDepth 20000 in
theorem ggX7_readStuff_X7_figure : GoodIn wsX7_readStuff wsX7_figure := goodIn_r _ [7, 8, 9, 10, 11, 12, 6, 13, 14, 15, 16, 17, 18, 19, 20, 21, 22, 23, 24, 25, 26, 27, 28, 29, 30, 31, 32, 33, 34, 35, 36, 37, 38, 39, 40, 41, 42, 43, 44, 45, 46, 47, 48, 49, 50, 51, 52, 53] (by decide +kernel) (by decide +kernel)
set_option maxRecDepth 20000 in
theorem gX7_readStuff_X7_figure : GoodIn wsX7_readStuff (wsV RX7 93 RX7 yX7_figure wsX7_figure) := goodIn_app (goodIn_of _ (by decide +kernel)) ggX7_readStuff_X7_figure
theorem dX7_readStuff_0 : decode cX7_readStuff 0 = .ok (.aload_n 0, 1) := by decide +kernel
theorem dX7_readStuff_1 : decode cX7_readStuff 1 = .ok (.iconst 0, 1) := by decide +kernel
theorem dX7_readStuff_2 : decode cX7_readStuff 2 = .ok (.bipush 9, 2) := by decide +kernel
theorem dX7_readStuff_4 : decode cX7_readStuff 4 = .ok (.invokevirtual 93, 3) := by decide +kernel
theorem dX7_readStuff_7 : decode cX7_readStuff 7 = .ok (.istore_n 1, 1) := by decide +kernel
theorem dX7_readStuff_8 : decode cX7_readStuff 8 = .ok (.iload_n 1, 1) := by decide +kernel
theorem dX7_readStuff_9 : decode cX7_readStuff 9 = .ok (.bipush (-9), 2) := by decide +kernel
theorem dX7_readStuff_11 : decode cX7_readStuff 11 = .ok (.if_icmp .ne 8, 3) := by decide +kernel
theorem dX7_readStuff_14 : decode cX7_readStuff 14 = .ok (.bipush (-9), 2) := by decide +kernel
theorem dX7_readStuff_16 : decode cX7_readStuff 16 = .ok (.goto 10, 3) := by decide +kernel
theorem dX7_readStuff_19 : decode cX7_readStuff 19 = .ok (.aload_n 0, 1) := by decide +kernel
theorem dX7_readStuff_20 : decode cX7_readStuff 20 = .ok (.iconst 1, 1) := by decide +kernel
theorem dX7_readStuff_21 : decode cX7_readStuff 21 = .ok (.bipush 9, 2) := by decide +kernel
theorem dX7_readStuff_23 : decode cX7_readStuff 23 = .ok (.invokevirtual 93, 3) := by decide +kernel
theorem dX7_readStuff_26 : decode cX7_readStuff 26 = .ok (.istore_n 2, 1) := by decide +kernel
theorem dX7_readStuff_27 : decode cX7_readStuff 27 = .ok (.iload_n 2, 1) := by decide +kernel
theorem dX7_readStuff_28 : decode cX7_readStuff 28 = .ok (.bipush (-9), 2) := by decide +kernel
theorem dX7_readStuff_30 : decode cX7_readStuff 30 = .ok (.if_icmp .ne 5, 3) := by decide +kernel
theorem dX7_readStuff_33 : decode cX7_readStuff 33 = .ok (.iconst 0, 1) := by decide +kernel
theorem dX7_readStuff_34 : decode cX7_readStuff 34 = .ok (.ireturn, 1) := by decide +kernel
theorem dX7_readStuff_35 : decode cX7_readStuff 35 = .ok (.aload_n 0, 1) := by decide +kernel
theorem dX7_readStuff_36 : decode cX7_readStuff 36 = .ok (.getfield 37, 3) := by decide +kernel
theorem dX7_readStuff_39 : decode cX7_readStuff 39 = .ok (.iconst 2, 1) := by decide +kernel
theorem dX7_readStuff_40 : decode cX7_readStuff 40 = .ok (.aload_n 0, 1) := by decide +kernel
theorem dX7_readStuff_41 : decode cX7_readStuff 41 = .ok (.getfield 101, 3) := by decide +kernel
theorem dX7_readStuff_44 : decode cX7_readStuff 44 = .ok (.imul, 1) := by decide +kernel
theorem dX7_readStuff_45 : decode cX7_readStuff 45 = .ok (.iload_n 1, 1) := by decide +kernel
theorem dX7_readStuff_46 : decode cX7_readStuff 46 = .ok (.iastore, 1) := by decide +kernel
theorem dX7_readStuff_47 : decode cX7_readStuff 47 = .ok (.aload_n 0, 1) := by decide +kernel
theorem dX7_readStuff_48 : decode cX7_readStuff 48 = .ok (.getfield 37, 3) := by decide +kernel
theorem dX7_readStuff_51 : decode cX7_readStuff 51 = .ok (.iconst 2, 1) := by decide +kernel
theorem dX7_readStuff_52 : decode cX7_readStuff 52 = .ok (.aload_n 0, 1) := by decide +kernel
theorem dX7_readStuff_53 : decode cX7_readStuff 53 = .ok (.getfield 101, 3) := by decide +kernel
theorem dX7_readStuff_56 : decode cX7_readStuff 56 = .ok (.imul, 1) := by decide +kernel
theorem dX7_readStuff_57 : decode cX7_readStuff 57 = .ok (.iconst 1, 1) := by decide +kernel
theorem dX7_readStuff_58 : decode cX7_readStuff 58 = .ok (.iadd, 1) := by decide +kernel
theorem dX7_readStuff_59 : decode cX7_readStuff 59 = .ok (.iload_n 2, 1) := by decide +kernel
theorem dX7_readStuff_60 : decode cX7_readStuff 60 = .ok (.iastore, 1) := by decide +kernel
theorem dX7_readStuff_61 : decode cX7_readStuff 61 = .ok (.aload_n 0, 1) := by decide +kernel
theorem dX7_readStuff_62 : decode cX7_readStuff 62 = .ok (.dup, 1) := by decide +kernel
theorem dX7_readStuff_63 : decode cX7_readStuff 63 = .ok (.getfield 101, 3) := by decide +kernel
theorem dX7_readStuff_66 : decode cX7_readStuff 66 = .ok (.iconst 1, 1) := by decide +kernel
theorem dX7_readStuff_67 : decode cX7_readStuff 67 = .ok (.iadd, 1) := by decide +kernel
theorem dX7_readStuff_68 : decode cX7_readStuff 68 = .ok (.putfield 101, 3) := by decide +kernel
theorem dX7_readStuff_71 : decode cX7_readStuff 71 = .ok (.iconst 1, 1) := by decide +kernel
theorem dX7_readStuff_72 : decode cX7_readStuff 72 = .ok (.ireturn, 1) := by decide +kernel
set_option maxRecDepth 20000 in
theorem ggX7_readPart_X7_readRing : GoodIn wsX7_readPart wsX7_readRing := goodIn_r _ [9, 2, 10, 1, 3, 11, 12, 13, 14, 8, 15, 16, 17, 18, 19, 20, 21, 22, 28, 29, 30, 31, 32, 33, 34, 35, 36, 37, 38, 39, 40, 41, 42, 43, 44, 45, 46, 47, 48, 49, 50, 51, 52, 53, 54, 55, 56, 57, 58, 59, 60, 61, 62, 63, 64, 65, 66, 67] (by decide +kernel) (by decide +kernel)
set_option maxRecDepth 20000 in
theorem gX7_readPart_X7_readRing : GoodIn wsX7_readPart (wsV RX7 104 RX7 yX7_readRing wsX7_readRing) := goodIn_app (goodIn_of _ (by decide +kernel)) ggX7_readPart_X7_readRing
set_option maxRecDepth 20000 in
theorem ggX7_readPart_X7_readStuff : GoodIn wsX7_readPart wsX7_readStuff := goodIn_r _ [26, 27, 4, 12, 13, 14, 8, 15, 2, 10, 1, 16, 17, 18, 28, 29, 30, 31, 32, 33, 34, 35, 36, 37, 38, 39, 40, 41, 42, 43, 44, 45, 46, 47, 48, 49, 50, 51, 52, 53, 54, 55, 56, 57, 58, 59, 60, 61, 62, 63, 64, 65, 66, 67] (by decide +kernel) (by decide +kernel)
set_option maxRecDepth 20000 in
theorem gX7_readPart_X7_readStuff : GoodIn wsX7_readPart (wsV RX7 107 RX7 yX7_readStuff wsX7_readStuff) := goodIn_app (goodIn_of _ (by decide +kernel)) ggX7_readPart_X7_readStuff
theorem dX7_readPart_0 : decode cX7_readPart 0 = .ok (.aload_n 0, 1) := by decide +kernel
theorem dX7_readPart_1 : decode cX7_readPart 1 = .ok (.getfield 7, 3) := by decide +kernel
theorem dX7_readPart_4 : decode cX7_readPart 4 = .ok (.aload_n 0, 1) := by decide +kernel
theorem dX7_readPart_5 : decode cX7_readPart 5 = .ok (.getfield 87, 3) := by decide +kernel
theorem dX7_readPart_8 : decode cX7_readPart 8 = .ok (.iaload, 1) := by decide +kernel
theorem dX7_readPart_9 : decode cX7_readPart 9 = .ok (.istore_n 1, 1) := by decide +kernel
theorem dX7_readPart_10 : decode cX7_readPart 10 = .ok (.iload_n 1, 1) := by decide +kernel
theorem dX7_readPart_11 : decode cX7_readPart 11 = .ok (.bipush 71, 2) := by decide +kernel
theorem dX7_readPart_13 : decode cX7_readPart 13 = .ok (.if_icmp .ne 27, 3) := by decide +kernel
theorem dX7_readPart_16 : decode cX7_readPart 16 = .ok (.aload_n 0, 1) := by decide +kernel
theorem dX7_readPart_17 : decode cX7_readPart 17 = .ok (.getfield 90, 3) := by decide +kernel
theorem dX7_readPart_20 : decode cX7_readPart 20 = .ok (.bipush 8, 2) := by decide +kernel
theorem dX7_readPart_22 : decode cX7_readPart 22 = .ok (.if_icmp .ge 18, 3) := by decide +kernel
theorem dX7_readPart_25 : decode cX7_readPart 25 = .ok (.aload_n 0, 1) := by decide +kernel
theorem dX7_readPart_26 : decode cX7_readPart 26 = .ok (.dup, 1) := by decide +kernel
theorem dX7_readPart_27 : decode cX7_readPart 27 = .ok (.getfield 87, 3) := by decide +kernel
theorem dX7_readPart_30 : decode cX7_readPart 30 = .ok (.iconst 1, 1) := by decide +kernel
theorem dX7_readPart_31 : decode cX7_readPart 31 = .ok (.iadd, 1) := by decide +kernel
theorem dX7_readPart_32 : decode cX7_readPart 32 = .ok (.putfield 87, 3) := by decide +kernel
theorem dX7_readPart_35 : decode cX7_readPart 35 = .ok (.aload_n 0, 1) := by decide +kernel
theorem dX7_readPart_36 : decode cX7_readPart 36 = .ok (.invokevirtual 104, 3) := by decide +kernel
theorem dX7_readPart_39 : decode cX7_readPart 39 = .ok (.ireturn, 1) := by decide +kernel
theorem dX7_readPart_40 : decode cX7_readPart 40 = .ok (.iload_n 1, 1) := by decide +kernel
theorem dX7_readPart_41 : decode cX7_readPart 41 = .ok (.bipush 83, 2) := by decide +kernel
theorem dX7_readPart_43 : decode cX7_readPart 43 = .ok (.if_icmp .ne 26, 3) := by decide +kernel
theorem dX7_readPart_46 : decode cX7_readPart 46 = .ok (.aload_n 0, 1) := by decide +kernel
theorem dX7_readPart_47 : decode cX7_readPart 47 = .ok (.getfield 101, 3) := by decide +kernel
theorem dX7_readPart_50 : decode cX7_readPart 50 = .ok (.iconst 5, 1) := by decide +kernel
theorem dX7_readPart_51 : decode cX7_readPart 51 = .ok (.if_icmp .ge 18, 3) := by decide +kernel
theorem dX7_readPart_54 : decode cX7_readPart 54 = .ok (.aload_n 0, 1) := by decide +kernel
theorem dX7_readPart_55 : decode cX7_readPart 55 = .ok (.dup, 1) := by decide +kernel
theorem dX7_readPart_56 : decode cX7_readPart 56 = .ok (.getfield 87, 3) := by decide +kernel
theorem dX7_readPart_59 : decode cX7_readPart 59 = .ok (.iconst 1, 1) := by decide +kernel
theorem dX7_readPart_60 : decode cX7_readPart 60 = .ok (.iadd, 1) := by decide +kernel
theorem dX7_readPart_61 : decode cX7_readPart 61 = .ok (.putfield 87, 3) := by decide +kernel
theorem dX7_readPart_64 : decode cX7_readPart 64 = .ok (.aload_n 0, 1) := by decide +kernel
theorem dX7_readPart_65 : decode cX7_readPart 65 = .ok (.invokevirtual 107, 3) := by decide +kernel
theorem dX7_readPart_68 : decode cX7_readPart 68 = .ok (.ireturn, 1) := by decide +kernel
theorem dX7_readPart_69 : decode cX7_readPart 69 = .ok (.iconst 0, 1) := by decide +kernel
theorem dX7_readPart_70 : decode cX7_readPart 70 = .ok (.ireturn, 1) := by decide +kernel
set_option maxRecDepth 20000 in
theorem ggX7_readRoom_X7_figure : GoodIn wsX7_readRoom wsX7_figure := goodIn_r _ [12, 1, 4, 5, 13, 14, 11, 15, 34, 35, 36, 37, 38, 39, 40, 41, 42, 43, 44, 45, 46, 47, 48, 49, 50, 51, 52, 53, 54, 55, 56, 57, 58, 59, 60, 61, 62, 63, 64, 65, 66, 67, 68, 69, 70, 71, 72, 73] (by decide +kernel) (by decide +kernel)
set_option maxRecDepth 20000 in
theorem gX7_readRoom_X7_figure : GoodIn wsX7_readRoom (wsV RX7 93 RX7 yX7_figure wsX7_figure) := goodIn_app (goodIn_of _ (by decide +kernel)) ggX7_readRoom_X7_figure
set_option maxRecDepth 20000 in
theorem ggX7_readRoom_X7_readPart : GoodIn wsX7_readRoom wsX7_readPart := goodIn_r _ [19, 5, 1, 2, 3, 20, 21, 22, 11, 23, 4, 24, 8, 9, 10, 12, 13, 14, 15, 25, 26, 27, 28, 29, 30, 31, 32, 33, 34, 35, 36, 37, 38, 39, 40, 41, 42, 43, 44, 45, 46, 47, 48, 49, 50, 51, 52, 53, 54, 55, 56, 57, 58, 59, 60, 61, 62, 63, 64, 65, 66, 67, 68, 69, 70, 71, 72, 73] (by decide +kernel) (by decide +kernel)
set_option maxRecDepth 20000 in
theorem gX7_readRoom_X7_readPart : GoodIn wsX7_readRoom (wsV RX7 115 RX7 yX7_readPart wsX7_readPart) := goodIn_app (goodIn_of _ (by decide +kernel)) ggX7_readRoom_X7_readPart
theorem dX7_readRoom_0 : decode cX7_readRoom 0 = .ok (.aload_n 0, 1) := by decide +kernel
theorem dX7_readRoom_1 : decode cX7_readRoom 1 = .ok (.iconst 0, 1) := by decide +kernel
theorem dX7_readRoom_2 : decode cX7_readRoom 2 = .ok (.putfield 87, 3) := by decide +kernel
theorem dX7_readRoom_5 : decode cX7_readRoom 5 = .ok (.aload_n 0, 1) := by decide +kernel
theorem dX7_readRoom_6 : decode cX7_readRoom 6 = .ok (.iconst 0, 1) := by decide +kernel
theorem dX7_readRoom_7 : decode cX7_readRoom 7 = .ok (.putfield 90, 3) := by decide +kernel
theorem dX7_readRoom_10 : decode cX7_readRoom 10 = .ok (.aload_n 0, 1) := by decide +kernel
theorem dX7_readRoom_11 : decode cX7_readRoom 11 = .ok (.iconst 0, 1) := by decide +kernel
theorem dX7_readRoom_12 : decode cX7_readRoom 12 = .ok (.putfield 101, 3) := by decide +kernel
theorem dX7_readRoom_15 : decode cX7_readRoom 15 = .ok (.aload_n 0, 1) := by decide +kernel
theorem dX7_readRoom_16 : decode cX7_readRoom 16 = .ok (.getfield 84, 3) := by decide +kernel
theorem dX7_readRoom_19 : decode cX7_readRoom 19 = .ok (.ifCond .eq 14, 3) := by decide +kernel
theorem dX7_readRoom_22 : decode cX7_readRoom 22 = .ok (.aload_n 0, 1) := by decide +kernel
theorem dX7_readRoom_23 : decode cX7_readRoom 23 = .ok (.getfield 7, 3) := by decide +kernel
theorem dX7_readRoom_26 : decode cX7_readRoom 26 = .ok (.iconst 0, 1) := by decide +kernel
theorem dX7_readRoom_27 : decode cX7_readRoom 27 = .ok (.iaload, 1) := by decide +kernel
theorem dX7_readRoom_28 : decode cX7_readRoom 28 = .ok (.bipush 82, 2) := by decide +kernel
theorem dX7_readRoom_30 : decode cX7_readRoom 30 = .ok (.if_icmp .eq 5, 3) := by decide +kernel
theorem dX7_readRoom_33 : decode cX7_readRoom 33 = .ok (.iconst 0, 1) := by decide +kernel
theorem dX7_readRoom_34 : decode cX7_readRoom 34 = .ok (.ireturn, 1) := by decide +kernel
theorem dX7_readRoom_35 : decode cX7_readRoom 35 = .ok (.aload_n 0, 1) := by decide +kernel
theorem dX7_readRoom_36 : decode cX7_readRoom 36 = .ok (.iconst 1, 1) := by decide +kernel
theorem dX7_readRoom_37 : decode cX7_readRoom 37 = .ok (.putfield 87, 3) := by decide +kernel
theorem dX7_readRoom_40 : decode cX7_readRoom 40 = .ok (.aload_n 0, 1) := by decide +kernel
theorem dX7_readRoom_41 : decode cX7_readRoom 41 = .ok (.aload_n 0, 1) := by decide +kernel
theorem dX7_readRoom_42 : decode cX7_readRoom 42 = .ok (.iconst 0, 1) := by decide +kernel
theorem dX7_readRoom_43 : decode cX7_readRoom 43 = .ok (.bipush 9, 2) := by decide +kernel
theorem dX7_readRoom_45 : decode cX7_readRoom 45 = .ok (.invokevirtual 93, 3) := by decide +kernel
theorem dX7_readRoom_48 : decode cX7_readRoom 48 = .ok (.putfield 109, 3) := by decide +kernel
theorem dX7_readRoom_51 : decode cX7_readRoom 51 = .ok (.aload_n 0, 1) := by decide +kernel
theorem dX7_readRoom_52 : decode cX7_readRoom 52 = .ok (.aload_n 0, 1) := by decide +kernel
theorem dX7_readRoom_53 : decode cX7_readRoom 53 = .ok (.getfield 109, 3) := by decide +kernel
theorem dX7_readRoom_56 : decode cX7_readRoom 56 = .ok (.bipush (-9), 2) := by decide +kernel
theorem dX7_readRoom_58 : decode cX7_readRoom 58 = .ok (.if_icmp .ne 8, 3) := by decide +kernel
theorem dX7_readRoom_61 : decode cX7_readRoom 61 = .ok (.bipush (-9), 2) := by decide +kernel
theorem dX7_readRoom_63 : decode cX7_readRoom 63 = .ok (.goto 10, 3) := by decide +kernel
theorem dX7_readRoom_66 : decode cX7_readRoom 66 = .ok (.aload_n 0, 1) := by decide +kernel
theorem dX7_readRoom_67 : decode cX7_readRoom 67 = .ok (.iconst 0, 1) := by decide +kernel
theorem dX7_readRoom_68 : decode cX7_readRoom 68 = .ok (.bipush 9, 2) := by decide +kernel
theorem dX7_readRoom_70 : decode cX7_readRoom 70 = .ok (.invokevirtual 93, 3) := by decide +kernel
theorem dX7_readRoom_73 : decode cX7_readRoom 73 = .ok (.putfield 112, 3) := by decide +kernel
theorem dX7_readRoom_76 : decode cX7_readRoom 76 = .ok (.aload_n 0, 1) := by decide +kernel
theorem dX7_readRoom_77 : decode cX7_readRoom 77 = .ok (.getfield 112, 3) := by decide +kernel
theorem dX7_readRoom_80 : decode cX7_readRoom 80 = .ok (.bipush (-9), 2) := by decide +kernel
theorem dX7_readRoom_82 : decode cX7_readRoom 82 = .ok (.if_icmp .ne 8, 3) := by decide +kernel
theorem dX7_readRoom_85 : decode cX7_readRoom 85 = .ok (.aload_n 0, 1) := by decide +kernel
theorem dX7_readRoom_86 : decode cX7_readRoom 86 = .ok (.getfield 87, 3) := by decide +kernel
theorem dX7_readRoom_89 : decode cX7_readRoom 89 = .ok (.ireturn, 1) := by decide +kernel
theorem dX7_readRoom_90 : decode cX7_readRoom 90 = .ok (.aload_n 0, 1) := by decide +kernel
theorem dX7_readRoom_91 : decode cX7_readRoom 91 = .ok (.getfield 87, 3) := by decide +kernel
theorem dX7_readRoom_94 : decode cX7_readRoom 94 = .ok (.aload_n 0, 1) := by decide +kernel
theorem dX7_readRoom_95 : decode cX7_readRoom 95 = .ok (.getfield 84, 3) := by decide +kernel
theorem dX7_readRoom_98 : decode cX7_readRoom 98 = .ok (.if_icmp .ge 15, 3) := by decide +kernel
theorem dX7_readRoom_101 : decode cX7_readRoom 101 = .ok (.aload_n 0, 1) := by decide +kernel
theorem dX7_readRoom_102 : decode cX7_readRoom 102 = .ok (.invokevirtual 115, 3) := by decide +kernel
theorem dX7_readRoom_105 : decode cX7_readRoom 105 = .ok (.ifCond .ne (-15), 3) := by decide +kernel
theorem dX7_readRoom_108 : decode cX7_readRoom 108 = .ok (.aload_n 0, 1) := by decide +kernel
theorem dX7_readRoom_109 : decode cX7_readRoom 109 = .ok (.getfield 87, 3) := by decide +kernel
theorem dX7_readRoom_112 : decode cX7_readRoom 112 = .ok (.ireturn, 1) := by decide +kernel
theorem dX7_readRoom_113 : decode cX7_readRoom 113 = .ok (.bipush (-9), 2) := by decide +kernel
theorem dX7_readRoom_115 : decode cX7_readRoom 115 = .ok (.ireturn, 1) := by decide +kernel
set_option maxRecDepth 20000 in
theorem ggX7_fault_X7_readRoom : GoodIn wsX7_fault wsX7_readRoom := goodIn_r _ [6, 7, 8, 9, 10, 11, 12, 13, 14, 15, 16, 5, 17, 18, 19, 20, 21, 22, 23, 24, 25, 26, 27, 28, 29, 30, 31, 32, 33, 34, 35, 36, 37, 38, 39, 40, 41, 42, 43, 44, 45, 46, 47, 48, 49, 50, 51, 52, 53, 54, 55, 56, 57, 58, 59, 60, 61, 62, 63, 64, 65, 66, 67, 68, 69, 70, 71, 72, 73, 74, 75, 76, 77, 78] (by decide +kernel) (by decide +kernel)
set_option maxRecDepth 20000 in
theorem gX7_fault_X7_readRoom : GoodIn wsX7_fault (wsV RX7 118 RX7 yX7_readRoom wsX7_readRoom) := goodIn_app (goodIn_of _ (by decide +kernel)) ggX7_fault_X7_readRoom
theorem dX7_fault_0 : decode cX7_fault 0 = .ok (.aload_n 0, 1) := by decide +kernel
theorem dX7_fault_1 : decode cX7_fault 1 = .ok (.iconst 0, 1) := by decide +kernel
theorem dX7_fault_2 : decode cX7_fault 2 = .ok (.putfield 71, 3) := by decide +kernel
theorem dX7_fault_5 : decode cX7_fault 5 = .ok (.aload_n 0, 1) := by decide +kernel
theorem dX7_fault_6 : decode cX7_fault 6 = .ok (.invokevirtual 118, 3) := by decide +kernel
theorem dX7_fault_9 : decode cX7_fault 9 = .ok (.ireturn, 1) := by decide +kernel
set_option maxRecDepth 20000 in
theorem ggX7_room_X7_readRoom : GoodIn wsX7_room wsX7_readRoom := goodIn_r _ [26, 27, 2, 4, 28, 29, 6, 8, 30, 31, 32, 25, 33, 34, 35, 36, 37, 38, 39, 40, 41, 42, 43, 44, 12, 45, 46, 47, 48, 49, 50, 51, 52, 18, 53, 54, 55, 56, 57, 58, 59, 60, 61, 62, 63, 64, 65, 66, 67, 68, 69, 70, 71, 72, 73, 74, 75, 76, 77, 78, 79, 80, 81, 82, 83, 84, 85, 86, 87, 88, 89, 90, 91, 92] (by decide +kernel) (by decide +kernel)
set_option maxRecDepth 20000 in
theorem gX7_room_X7_readRoom : GoodIn wsX7_room (wsV RX7 118 RX7 yX7_readRoom wsX7_readRoom) := goodIn_app (goodIn_of _ (by decide +kernel)) ggX7_room_X7_readRoom
theorem dX7_room_0 : decode cX7_room 0 = .ok (.aload_n 0, 1) := by decide +kernel
theorem dX7_room_1 : decode cX7_room 1 = .ok (.iconst 0, 1) := by decide +kernel
theorem dX7_room_2 : decode cX7_room 2 = .ok (.putfield 71, 3) := by decide +kernel
theorem dX7_room_5 : decode cX7_room 5 = .ok (.aload_n 0, 1) := by decide +kernel
theorem dX7_room_6 : decode cX7_room 6 = .ok (.invokevirtual 118, 3) := by decide +kernel
theorem dX7_room_9 : decode cX7_room 9 = .ok (.bipush (-9), 2) := by decide +kernel
theorem dX7_room_11 : decode cX7_room 11 = .ok (.if_icmp .eq 6, 3) := by decide +kernel
theorem dX7_room_14 : decode cX7_room 14 = .ok (.bipush (-3), 2) := by decide +kernel
theorem dX7_room_16 : decode cX7_room 16 = .ok (.ireturn, 1) := by decide +kernel
theorem dX7_room_17 : decode cX7_room 17 = .ok (.aload_n 0, 1) := by decide +kernel
theorem dX7_room_18 : decode cX7_room 18 = .ok (.aload_n 0, 1) := by decide +kernel
theorem dX7_room_19 : decode cX7_room 19 = .ok (.getfield 90, 3) := by decide +kernel
theorem dX7_room_22 : decode cX7_room 22 = .ok (.putfield 75, 3) := by decide +kernel
theorem dX7_room_25 : decode cX7_room 25 = .ok (.aload_n 0, 1) := by decide +kernel
theorem dX7_room_26 : decode cX7_room 26 = .ok (.aload_n 0, 1) := by decide +kernel
theorem dX7_room_27 : decode cX7_room 27 = .ok (.getfield 101, 3) := by decide +kernel
theorem dX7_room_30 : decode cX7_room 30 = .ok (.putfield 122, 3) := by decide +kernel
theorem dX7_room_33 : decode cX7_room 33 = .ok (.aload_n 0, 1) := by decide +kernel
theorem dX7_room_34 : decode cX7_room 34 = .ok (.aload_n 0, 1) := by decide +kernel
theorem dX7_room_35 : decode cX7_room 35 = .ok (.getfield 109, 3) := by decide +kernel
theorem dX7_room_38 : decode cX7_room 38 = .ok (.putfield 125, 3) := by decide +kernel
theorem dX7_room_41 : decode cX7_room 41 = .ok (.aload_n 0, 1) := by decide +kernel
theorem dX7_room_42 : decode cX7_room 42 = .ok (.aload_n 0, 1) := by decide +kernel
theorem dX7_room_43 : decode cX7_room 43 = .ok (.getfield 112, 3) := by decide +kernel
theorem dX7_room_46 : decode cX7_room 46 = .ok (.putfield 128, 3) := by decide +kernel
theorem dX7_room_49 : decode cX7_room 49 = .ok (.aload_n 0, 1) := by decide +kernel
theorem dX7_room_50 : decode cX7_room 50 = .ok (.iconst 0, 1) := by decide +kernel
theorem dX7_room_51 : decode cX7_room 51 = .ok (.putfield 131, 3) := by decide +kernel
theorem dX7_room_54 : decode cX7_room 54 = .ok (.iconst 0, 1) := by decide +kernel
theorem dX7_room_55 : decode cX7_room 55 = .ok (.istore_n 1, 1) := by decide +kernel
theorem dX7_room_56 : decode cX7_room 56 = .ok (.iload_n 1, 1) := by decide +kernel
theorem dX7_room_57 : decode cX7_room 57 = .ok (.aload_n 0, 1) := by decide +kernel
theorem dX7_room_58 : decode cX7_room 58 = .ok (.getfield 75, 3) := by decide +kernel
theorem dX7_room_61 : decode cX7_room 61 = .ok (.if_icmp .ge 87, 3) := by decide +kernel
theorem dX7_room_64 : decode cX7_room 64 = .ok (.aload_n 0, 1) := by decide +kernel
theorem dX7_room_65 : decode cX7_room 65 = .ok (.getfield 13, 3) := by decide +kernel
theorem dX7_room_68 : decode cX7_room 68 = .ok (.iload_n 1, 1) := by decide +kernel
theorem dX7_room_69 : decode cX7_room 69 = .ok (.aload_n 0, 1) := by decide +kernel
theorem dX7_room_70 : decode cX7_room 70 = .ok (.getfield 34, 3) := by decide +kernel
theorem dX7_room_73 : decode cX7_room 73 = .ok (.iconst 5, 1) := by decide +kernel
theorem dX7_room_74 : decode cX7_room 74 = .ok (.iload_n 1, 1) := by decide +kernel
theorem dX7_room_75 : decode cX7_room 75 = .ok (.imul, 1) := by decide +kernel
theorem dX7_room_76 : decode cX7_room 76 = .ok (.iaload, 1) := by decide +kernel
theorem dX7_room_77 : decode cX7_room 77 = .ok (.iastore, 1) := by decide +kernel
theorem dX7_room_78 : decode cX7_room 78 = .ok (.aload_n 0, 1) := by decide +kernel
theorem dX7_room_79 : decode cX7_room 79 = .ok (.getfield 16, 3) := by decide +kernel
theorem dX7_room_82 : decode cX7_room 82 = .ok (.iload_n 1, 1) := by decide +kernel
theorem dX7_room_83 : decode cX7_room 83 = .ok (.aload_n 0, 1) := by decide +kernel
theorem dX7_room_84 : decode cX7_room 84 = .ok (.getfield 34, 3) := by decide +kernel
theorem dX7_room_87 : decode cX7_room 87 = .ok (.iconst 5, 1) := by decide +kernel
theorem dX7_room_88 : decode cX7_room 88 = .ok (.iload_n 1, 1) := by decide +kernel
theorem dX7_room_89 : decode cX7_room 89 = .ok (.imul, 1) := by decide +kernel
theorem dX7_room_90 : decode cX7_room 90 = .ok (.iconst 1, 1) := by decide +kernel
theorem dX7_room_91 : decode cX7_room 91 = .ok (.iadd, 1) := by decide +kernel
theorem dX7_room_92 : decode cX7_room 92 = .ok (.iaload, 1) := by decide +kernel
theorem dX7_room_93 : decode cX7_room 93 = .ok (.iastore, 1) := by decide +kernel
theorem dX7_room_94 : decode cX7_room 94 = .ok (.aload_n 0, 1) := by decide +kernel
theorem dX7_room_95 : decode cX7_room 95 = .ok (.getfield 19, 3) := by decide +kernel
theorem dX7_room_98 : decode cX7_room 98 = .ok (.iload_n 1, 1) := by decide +kernel
theorem dX7_room_99 : decode cX7_room 99 = .ok (.aload_n 0, 1) := by decide +kernel
theorem dX7_room_100 : decode cX7_room 100 = .ok (.getfield 34, 3) := by decide +kernel
theorem dX7_room_103 : decode cX7_room 103 = .ok (.iconst 5, 1) := by decide +kernel
theorem dX7_room_104 : decode cX7_room 104 = .ok (.iload_n 1, 1) := by decide +kernel
theorem dX7_room_105 : decode cX7_room 105 = .ok (.imul, 1) := by decide +kernel
theorem dX7_room_106 : decode cX7_room 106 = .ok (.iconst 2, 1) := by decide +kernel
theorem dX7_room_107 : decode cX7_room 107 = .ok (.iadd, 1) := by decide +kernel
theorem dX7_room_108 : decode cX7_room 108 = .ok (.iaload, 1) := by decide +kernel
theorem dX7_room_109 : decode cX7_room 109 = .ok (.iastore, 1) := by decide +kernel
theorem dX7_room_110 : decode cX7_room 110 = .ok (.aload_n 0, 1) := by decide +kernel
theorem dX7_room_111 : decode cX7_room 111 = .ok (.getfield 22, 3) := by decide +kernel
theorem dX7_room_114 : decode cX7_room 114 = .ok (.iload_n 1, 1) := by decide +kernel
theorem dX7_room_115 : decode cX7_room 115 = .ok (.aload_n 0, 1) := by decide +kernel
theorem dX7_room_116 : decode cX7_room 116 = .ok (.getfield 34, 3) := by decide +kernel
theorem dX7_room_119 : decode cX7_room 119 = .ok (.iconst 5, 1) := by decide +kernel
theorem dX7_room_120 : decode cX7_room 120 = .ok (.iload_n 1, 1) := by decide +kernel
theorem dX7_room_121 : decode cX7_room 121 = .ok (.imul, 1) := by decide +kernel
theorem dX7_room_122 : decode cX7_room 122 = .ok (.iconst 3, 1) := by decide +kernel
theorem dX7_room_123 : decode cX7_room 123 = .ok (.iadd, 1) := by decide +kernel
theorem dX7_room_124 : decode cX7_room 124 = .ok (.iaload, 1) := by decide +kernel
theorem dX7_room_125 : decode cX7_room 125 = .ok (.iastore, 1) := by decide +kernel
theorem dX7_room_126 : decode cX7_room 126 = .ok (.aload_n 0, 1) := by decide +kernel
theorem dX7_room_127 : decode cX7_room 127 = .ok (.getfield 25, 3) := by decide +kernel
theorem dX7_room_130 : decode cX7_room 130 = .ok (.iload_n 1, 1) := by decide +kernel
theorem dX7_room_131 : decode cX7_room 131 = .ok (.aload_n 0, 1) := by decide +kernel
theorem dX7_room_132 : decode cX7_room 132 = .ok (.getfield 34, 3) := by decide +kernel
theorem dX7_room_135 : decode cX7_room 135 = .ok (.iconst 5, 1) := by decide +kernel
theorem dX7_room_136 : decode cX7_room 136 = .ok (.iload_n 1, 1) := by decide +kernel
theorem dX7_room_137 : decode cX7_room 137 = .ok (.imul, 1) := by decide +kernel
theorem dX7_room_138 : decode cX7_room 138 = .ok (.iconst 4, 1) := by decide +kernel
theorem dX7_room_139 : decode cX7_room 139 = .ok (.iadd, 1) := by decide +kernel
theorem dX7_room_140 : decode cX7_room 140 = .ok (.iaload, 1) := by decide +kernel
theorem dX7_room_141 : decode cX7_room 141 = .ok (.iastore, 1) := by decide +kernel
theorem dX7_room_142 : decode cX7_room 142 = .ok (.iinc 1 1, 3) := by decide +kernel
theorem dX7_room_145 : decode cX7_room 145 = .ok (.goto (-89), 3) := by decide +kernel
theorem dX7_room_148 : decode cX7_room 148 = .ok (.iconst 0, 1) := by decide +kernel
theorem dX7_room_149 : decode cX7_room 149 = .ok (.istore_n 1, 1) := by decide +kernel
theorem dX7_room_150 : decode cX7_room 150 = .ok (.iload_n 1, 1) := by decide +kernel
theorem dX7_room_151 : decode cX7_room 151 = .ok (.aload_n 0, 1) := by decide +kernel
theorem dX7_room_152 : decode cX7_room 152 = .ok (.getfield 122, 3) := by decide +kernel
theorem dX7_room_155 : decode cX7_room 155 = .ok (.if_icmp .ge 39, 3) := by decide +kernel
theorem dX7_room_158 : decode cX7_room 158 = .ok (.aload_n 0, 1) := by decide +kernel
theorem dX7_room_159 : decode cX7_room 159 = .ok (.getfield 28, 3) := by decide +kernel
theorem dX7_room_162 : decode cX7_room 162 = .ok (.iload_n 1, 1) := by decide +kernel
theorem dX7_room_163 : decode cX7_room 163 = .ok (.aload_n 0, 1) := by decide +kernel
theorem dX7_room_164 : decode cX7_room 164 = .ok (.getfield 37, 3) := by decide +kernel
theorem dX7_room_167 : decode cX7_room 167 = .ok (.iconst 2, 1) := by decide +kernel
theorem dX7_room_168 : decode cX7_room 168 = .ok (.iload_n 1, 1) := by decide +kernel
theorem dX7_room_169 : decode cX7_room 169 = .ok (.imul, 1) := by decide +kernel
theorem dX7_room_170 : decode cX7_room 170 = .ok (.iaload, 1) := by decide +kernel
theorem dX7_room_171 : decode cX7_room 171 = .ok (.iastore, 1) := by decide +kernel
theorem dX7_room_172 : decode cX7_room 172 = .ok (.aload_n 0, 1) := by decide +kernel
theorem dX7_room_173 : decode cX7_room 173 = .ok (.getfield 31, 3) := by decide +kernel
theorem dX7_room_176 : decode cX7_room 176 = .ok (.iload_n 1, 1) := by decide +kernel
theorem dX7_room_177 : decode cX7_room 177 = .ok (.aload_n 0, 1) := by decide +kernel
theorem dX7_room_178 : decode cX7_room 178 = .ok (.getfield 37, 3) := by decide +kernel
theorem dX7_room_181 : decode cX7_room 181 = .ok (.iconst 2, 1) := by decide +kernel
theorem dX7_room_182 : decode cX7_room 182 = .ok (.iload_n 1, 1) := by decide +kernel
theorem dX7_room_183 : decode cX7_room 183 = .ok (.imul, 1) := by decide +kernel
theorem dX7_room_184 : decode cX7_room 184 = .ok (.iconst 1, 1) := by decide +kernel
theorem dX7_room_185 : decode cX7_room 185 = .ok (.iadd, 1) := by decide +kernel
theorem dX7_room_186 : decode cX7_room 186 = .ok (.iaload, 1) := by decide +kernel
theorem dX7_room_187 : decode cX7_room 187 = .ok (.iastore, 1) := by decide +kernel
theorem dX7_room_188 : decode cX7_room 188 = .ok (.iinc 1 1, 3) := by decide +kernel
theorem dX7_room_191 : decode cX7_room 191 = .ok (.goto (-41), 3) := by decide +kernel
theorem dX7_room_194 : decode cX7_room 194 = .ok (.aload_n 0, 1) := by decide +kernel
theorem dX7_room_195 : decode cX7_room 195 = .ok (.iconst 0, 1) := by decide +kernel
theorem dX7_room_196 : decode cX7_room 196 = .ok (.putfield 135, 3) := by decide +kernel
theorem dX7_room_199 : decode cX7_room 199 = .ok (.aload_n 0, 1) := by decide +kernel
theorem dX7_room_200 : decode cX7_room 200 = .ok (.getfield 46, 3) := by decide +kernel
theorem dX7_room_203 : decode cX7_room 203 = .ok (.iconst 0, 1) := by decide +kernel
theorem dX7_room_204 : decode cX7_room 204 = .ok (.iconst 0, 1) := by decide +kernel
theorem dX7_room_205 : decode cX7_room 205 = .ok (.bastore, 1) := by decide +kernel
theorem dX7_room_206 : decode cX7_room 206 = .ok (.aload_n 0, 1) := by decide +kernel
theorem dX7_room_207 : decode cX7_room 207 = .ok (.getfield 46, 3) := by decide +kernel
theorem dX7_room_210 : decode cX7_room 210 = .ok (.iconst 1, 1) := by decide +kernel
theorem dX7_room_211 : decode cX7_room 211 = .ok (.iconst 0, 1) := by decide +kernel
theorem dX7_room_212 : decode cX7_room 212 = .ok (.bastore, 1) := by decide +kernel
theorem dX7_room_213 : decode cX7_room 213 = .ok (.aload_n 0, 1) := by decide +kernel
theorem dX7_room_214 : decode cX7_room 214 = .ok (.getfield 75, 3) := by decide +kernel
theorem dX7_room_217 : decode cX7_room 217 = .ok (.ireturn, 1) := by decide +kernel
theorem dX7_begin_0 : decode cX7_begin 0 = .ok (.iconst 0, 1) := by decide +kernel
theorem dX7_begin_1 : decode cX7_begin 1 = .ok (.istore_n 1, 1) := by decide +kernel
theorem dX7_begin_2 : decode cX7_begin 2 = .ok (.iload_n 1, 1) := by decide +kernel
theorem dX7_begin_3 : decode cX7_begin 3 = .ok (.aload_n 0, 1) := by decide +kernel
theorem dX7_begin_4 : decode cX7_begin 4 = .ok (.getfield 75, 3) := by decide +kernel
theorem dX7_begin_7 : decode cX7_begin 7 = .ok (.if_icmp .ge 21, 3) := by decide +kernel
theorem dX7_begin_10 : decode cX7_begin 10 = .ok (.aload_n 0, 1) := by decide +kernel
theorem dX7_begin_11 : decode cX7_begin 11 = .ok (.getfield 56, 3) := by decide +kernel
theorem dX7_begin_14 : decode cX7_begin 14 = .ok (.iload_n 1, 1) := by decide +kernel
theorem dX7_begin_15 : decode cX7_begin 15 = .ok (.aload_n 0, 1) := by decide +kernel
theorem dX7_begin_16 : decode cX7_begin 16 = .ok (.getfield 22, 3) := by decide +kernel
theorem dX7_begin_19 : decode cX7_begin 19 = .ok (.iload_n 1, 1) := by decide +kernel
theorem dX7_begin_20 : decode cX7_begin 20 = .ok (.iaload, 1) := by decide +kernel
theorem dX7_begin_21 : decode cX7_begin 21 = .ok (.iastore, 1) := by decide +kernel
theorem dX7_begin_22 : decode cX7_begin 22 = .ok (.iinc 1 1, 3) := by decide +kernel
theorem dX7_begin_25 : decode cX7_begin 25 = .ok (.goto (-23), 3) := by decide +kernel
theorem dX7_begin_28 : decode cX7_begin 28 = .ok (.aload_n 0, 1) := by decide +kernel
theorem dX7_begin_29 : decode cX7_begin 29 = .ok (.aload_n 0, 1) := by decide +kernel
theorem dX7_begin_30 : decode cX7_begin 30 = .ok (.getfield 128, 3) := by decide +kernel
theorem dX7_begin_33 : decode cX7_begin 33 = .ok (.putfield 138, 3) := by decide +kernel
theorem dX7_begin_36 : decode cX7_begin 36 = .ok (.aload_n 0, 1) := by decide +kernel
theorem dX7_begin_37 : decode cX7_begin 37 = .ok (.aload_n 0, 1) := by decide +kernel
theorem dX7_begin_38 : decode cX7_begin 38 = .ok (.getfield 75, 3) := by decide +kernel
theorem dX7_begin_41 : decode cX7_begin 41 = .ok (.putfield 141, 3) := by decide +kernel
theorem dX7_begin_44 : decode cX7_begin 44 = .ok (.aload_n 0, 1) := by decide +kernel
theorem dX7_begin_45 : decode cX7_begin 45 = .ok (.aload_n 0, 1) := by decide +kernel
theorem dX7_begin_46 : decode cX7_begin 46 = .ok (.getfield 125, 3) := by decide +kernel
theorem dX7_begin_49 : decode cX7_begin 49 = .ok (.putfield 144, 3) := by decide +kernel
theorem dX7_begin_52 : decode cX7_begin 52 = .ok (.aload_n 0, 1) := by decide +kernel
theorem dX7_begin_53 : decode cX7_begin 53 = .ok (.sipush 255, 3) := by decide +kernel
theorem dX7_begin_56 : decode cX7_begin 56 = .ok (.putfield 147, 3) := by decide +kernel
theorem dX7_begin_59 : decode cX7_begin 59 = .ok (.aload_n 0, 1) := by decide +kernel
theorem dX7_begin_60 : decode cX7_begin 60 = .ok (.aload_n 0, 1) := by decide +kernel
theorem dX7_begin_61 : decode cX7_begin 61 = .ok (.getfield 131, 3) := by decide +kernel
theorem dX7_begin_64 : decode cX7_begin 64 = .ok (.putfield 150, 3) := by decide +kernel
theorem dX7_begin_67 : decode cX7_begin 67 = .ok (.return_, 1) := by decide +kernel
set_option maxRecDepth 20000 in
theorem ggX7_loudOf_X7_has : GoodIn wsX7_loudOf wsX7_has := goodIn_r _ [7] (by decide +kernel) (by decide +kernel)
set_option maxRecDepth 20000 in
theorem gX7_loudOf_X7_has : GoodIn wsX7_loudOf (va_wsS RX7 153 yX7_has wsX7_has) := goodIn_app (goodIn_of _ (by decide +kernel)) ggX7_loudOf_X7_has
theorem dX7_loudOf_0 : decode cX7_loudOf 0 = .ok (.aload_n 0, 1) := by decide +kernel
theorem dX7_loudOf_1 : decode cX7_loudOf 1 = .ok (.getfield 19, 3) := by decide +kernel
theorem dX7_loudOf_4 : decode cX7_loudOf 4 = .ok (.iload_n 1, 1) := by decide +kernel
theorem dX7_loudOf_5 : decode cX7_loudOf 5 = .ok (.iaload, 1) := by decide +kernel
theorem dX7_loudOf_6 : decode cX7_loudOf 6 = .ok (.iconst 1, 1) := by decide +kernel
theorem dX7_loudOf_7 : decode cX7_loudOf 7 = .ok (.if_icmp .le 25, 3) := by decide +kernel
theorem dX7_loudOf_10 : decode cX7_loudOf 10 = .ok (.aload_n 0, 1) := by decide +kernel
theorem dX7_loudOf_11 : decode cX7_loudOf 11 = .ok (.getfield 147, 3) := by decide +kernel
theorem dX7_loudOf_14 : decode cX7_loudOf 14 = .ok (.iload_n 1, 1) := by decide +kernel
theorem dX7_loudOf_15 : decode cX7_loudOf 15 = .ok (.invokestatic 153, 3) := by decide +kernel
theorem dX7_loudOf_18 : decode cX7_loudOf 18 = .ok (.ifCond .eq 14, 3) := by decide +kernel
theorem dX7_loudOf_21 : decode cX7_loudOf 21 = .ok (.iconst 1, 1) := by decide +kernel
theorem dX7_loudOf_22 : decode cX7_loudOf 22 = .ok (.aload_n 0, 1) := by decide +kernel
theorem dX7_loudOf_23 : decode cX7_loudOf 23 = .ok (.getfield 56, 3) := by decide +kernel
theorem dX7_loudOf_26 : decode cX7_loudOf 26 = .ok (.iload_n 1, 1) := by decide +kernel
theorem dX7_loudOf_27 : decode cX7_loudOf 27 = .ok (.iaload, 1) := by decide +kernel
theorem dX7_loudOf_28 : decode cX7_loudOf 28 = .ok (.ishl, 1) := by decide +kernel
theorem dX7_loudOf_29 : decode cX7_loudOf 29 = .ok (.goto 4, 3) := by decide +kernel
theorem dX7_loudOf_32 : decode cX7_loudOf 32 = .ok (.iconst 0, 1) := by decide +kernel
theorem dX7_loudOf_33 : decode cX7_loudOf 33 = .ok (.ireturn, 1) := by decide +kernel
theorem dX7_loudMusic_0 : decode cX7_loudMusic 0 = .ok (.aload_n 0, 1) := by decide +kernel
theorem dX7_loudMusic_1 : decode cX7_loudMusic 1 = .ok (.getfield 138, 3) := by decide +kernel
theorem dX7_loudMusic_4 : decode cX7_loudMusic 4 = .ok (.ifCond .ne 7, 3) := by decide +kernel
theorem dX7_loudMusic_7 : decode cX7_loudMusic 7 = .ok (.iconst 0, 1) := by decide +kernel
theorem dX7_loudMusic_8 : decode cX7_loudMusic 8 = .ok (.goto 9, 3) := by decide +kernel
theorem dX7_loudMusic_11 : decode cX7_loudMusic 11 = .ok (.iconst 1, 1) := by decide +kernel
theorem dX7_loudMusic_12 : decode cX7_loudMusic 12 = .ok (.aload_n 0, 1) := by decide +kernel
theorem dX7_loudMusic_13 : decode cX7_loudMusic 13 = .ok (.getfield 138, 3) := by decide +kernel
theorem dX7_loudMusic_16 : decode cX7_loudMusic 16 = .ok (.ishl, 1) := by decide +kernel
theorem dX7_loudMusic_17 : decode cX7_loudMusic 17 = .ok (.ireturn, 1) := by decide +kernel
set_option maxRecDepth 20000 in
theorem ggX7_loudAll_X7_loudOf : GoodIn wsX7_loudAll wsX7_loudOf := goodIn_r _ [6, 7, 8, 9, 10, 11, 5, 12, 13, 14, 15, 16, 17, 18, 19, 20, 21, 22, 23, 24, 25, 26, 27, 28, 29, 30, 31, 32, 33, 34, 35, 36, 37, 38, 39, 40, 41, 42, 43, 44, 45, 46, 47, 48, 49, 50, 51, 52] (by decide +kernel) (by decide +kernel)
set_option maxRecDepth 20000 in
theorem gX7_loudAll_X7_loudOf : GoodIn wsX7_loudAll (wsV RX7 157 RX7 yX7_loudOf wsX7_loudOf) := goodIn_app (goodIn_of _ (by decide +kernel)) ggX7_loudAll_X7_loudOf
theorem dX7_loudAll_0 : decode cX7_loudAll 0 = .ok (.iconst 0, 1) := by decide +kernel
theorem dX7_loudAll_1 : decode cX7_loudAll 1 = .ok (.istore_n 1, 1) := by decide +kernel
theorem dX7_loudAll_2 : decode cX7_loudAll 2 = .ok (.iconst 0, 1) := by decide +kernel
theorem dX7_loudAll_3 : decode cX7_loudAll 3 = .ok (.istore_n 2, 1) := by decide +kernel
theorem dX7_loudAll_4 : decode cX7_loudAll 4 = .ok (.iload_n 2, 1) := by decide +kernel
theorem dX7_loudAll_5 : decode cX7_loudAll 5 = .ok (.aload_n 0, 1) := by decide +kernel
theorem dX7_loudAll_6 : decode cX7_loudAll 6 = .ok (.getfield 141, 3) := by decide +kernel
theorem dX7_loudAll_9 : decode cX7_loudAll 9 = .ok (.if_icmp .ge 17, 3) := by decide +kernel
theorem dX7_loudAll_12 : decode cX7_loudAll 12 = .ok (.iload_n 1, 1) := by decide +kernel
theorem dX7_loudAll_13 : decode cX7_loudAll 13 = .ok (.aload_n 0, 1) := by decide +kernel
theorem dX7_loudAll_14 : decode cX7_loudAll 14 = .ok (.iload_n 2, 1) := by decide +kernel
theorem dX7_loudAll_15 : decode cX7_loudAll 15 = .ok (.invokevirtual 157, 3) := by decide +kernel
theorem dX7_loudAll_18 : decode cX7_loudAll 18 = .ok (.iadd, 1) := by decide +kernel
theorem dX7_loudAll_19 : decode cX7_loudAll 19 = .ok (.istore_n 1, 1) := by decide +kernel
theorem dX7_loudAll_20 : decode cX7_loudAll 20 = .ok (.iinc 2 1, 3) := by decide +kernel
theorem dX7_loudAll_23 : decode cX7_loudAll 23 = .ok (.goto (-19), 3) := by decide +kernel
theorem dX7_loudAll_26 : decode cX7_loudAll 26 = .ok (.iload_n 1, 1) := by decide +kernel
theorem dX7_loudAll_27 : decode cX7_loudAll 27 = .ok (.ireturn, 1) := by decide +kernel
set_option maxRecDepth 20000 in
theorem ggX7_echo_X7_loudAll : GoodIn wsX7_echo wsX7_loudAll := goodIn_r _ [6, 7, 8, 9, 10, 5, 11, 12, 13, 14, 15, 16, 17, 23, 24, 25, 26, 27, 28, 29, 30, 31, 32, 33, 34, 35, 36, 37, 38, 39, 40, 41, 42, 43, 44, 45, 46, 47, 48, 49, 50, 51, 52, 53, 54, 55, 56, 57, 58, 59, 60, 61, 62] (by decide +kernel) (by decide +kernel)
set_option maxRecDepth 20000 in
theorem gX7_echo_X7_loudAll : GoodIn wsX7_echo (wsV RX7 161 RX7 yX7_loudAll wsX7_loudAll) := goodIn_app (goodIn_of _ (by decide +kernel)) ggX7_echo_X7_loudAll
set_option maxRecDepth 20000 in
theorem ggX7_echo_X7_loudMusic : GoodIn wsX7_echo wsX7_loudMusic := goodIn_r _ [21, 22, 23, 24, 25, 26, 27, 28, 29, 30, 31, 32, 33, 34, 35, 36, 37, 38, 39, 40, 41, 42, 43, 44, 45, 46, 47, 48, 49, 50, 51, 52, 53, 54, 55, 56, 57, 58, 59, 60, 61, 62] (by decide +kernel) (by decide +kernel)
set_option maxRecDepth 20000 in
theorem gX7_echo_X7_loudMusic : GoodIn wsX7_echo (wsV RX7 164 RX7 yX7_loudMusic wsX7_loudMusic) := goodIn_app (goodIn_of _ (by decide +kernel)) ggX7_echo_X7_loudMusic
theorem dX7_echo_0 : decode cX7_echo 0 = .ok (.aload_n 0, 1) := by decide +kernel
theorem dX7_echo_1 : decode cX7_echo 1 = .ok (.invokevirtual 161, 3) := by decide +kernel
theorem dX7_echo_4 : decode cX7_echo 4 = .ok (.aload_n 0, 1) := by decide +kernel
theorem dX7_echo_5 : decode cX7_echo 5 = .ok (.invokevirtual 164, 3) := by decide +kernel
theorem dX7_echo_8 : decode cX7_echo 8 = .ok (.iadd, 1) := by decide +kernel
theorem dX7_echo_9 : decode cX7_echo 9 = .ok (.bipush 10, 2) := by decide +kernel
theorem dX7_echo_11 : decode cX7_echo 11 = .ok (.aload_n 0, 1) := by decide +kernel
theorem dX7_echo_12 : decode cX7_echo 12 = .ok (.getfield 144, 3) := by decide +kernel
theorem dX7_echo_15 : decode cX7_echo 15 = .ok (.isub, 1) := by decide +kernel
theorem dX7_echo_16 : decode cX7_echo 16 = .ok (.imul, 1) := by decide +kernel
theorem dX7_echo_17 : decode cX7_echo 17 = .ok (.bipush 10, 2) := by decide +kernel
theorem dX7_echo_19 : decode cX7_echo 19 = .ok (.idiv, 1) := by decide +kernel
theorem dX7_echo_20 : decode cX7_echo 20 = .ok (.ireturn, 1) := by decide +kernel
theorem dX7_far_0 : decode cX7_far 0 = .ok (.iload_n 0, 1) := by decide +kernel
theorem dX7_far_1 : decode cX7_far 1 = .ok (.bipush 10, 2) := by decide +kernel
theorem dX7_far_3 : decode cX7_far 3 = .ok (.irem, 1) := by decide +kernel
theorem dX7_far_4 : decode cX7_far 4 = .ok (.iload_n 1, 1) := by decide +kernel
theorem dX7_far_5 : decode cX7_far 5 = .ok (.bipush 10, 2) := by decide +kernel
theorem dX7_far_7 : decode cX7_far 7 = .ok (.irem, 1) := by decide +kernel
theorem dX7_far_8 : decode cX7_far 8 = .ok (.isub, 1) := by decide +kernel
theorem dX7_far_9 : decode cX7_far 9 = .ok (.istore_n 2, 1) := by decide +kernel
theorem dX7_far_10 : decode cX7_far 10 = .ok (.iload_n 0, 1) := by decide +kernel
theorem dX7_far_11 : decode cX7_far 11 = .ok (.bipush 10, 2) := by decide +kernel
theorem dX7_far_13 : decode cX7_far 13 = .ok (.idiv, 1) := by decide +kernel
theorem dX7_far_14 : decode cX7_far 14 = .ok (.iload_n 1, 1) := by decide +kernel
theorem dX7_far_15 : decode cX7_far 15 = .ok (.bipush 10, 2) := by decide +kernel
theorem dX7_far_17 : decode cX7_far 17 = .ok (.idiv, 1) := by decide +kernel
theorem dX7_far_18 : decode cX7_far 18 = .ok (.isub, 1) := by decide +kernel
theorem dX7_far_19 : decode cX7_far 19 = .ok (.istore_n 3, 1) := by decide +kernel
theorem dX7_far_20 : decode cX7_far 20 = .ok (.iload_n 2, 1) := by decide +kernel
theorem dX7_far_21 : decode cX7_far 21 = .ok (.iload_n 2, 1) := by decide +kernel
theorem dX7_far_22 : decode cX7_far 22 = .ok (.imul, 1) := by decide +kernel
theorem dX7_far_23 : decode cX7_far 23 = .ok (.iload_n 3, 1) := by decide +kernel
theorem dX7_far_24 : decode cX7_far 24 = .ok (.iload_n 3, 1) := by decide +kernel
theorem dX7_far_25 : decode cX7_far 25 = .ok (.imul, 1) := by decide +kernel
theorem dX7_far_26 : decode cX7_far 26 = .ok (.iadd, 1) := by decide +kernel
theorem dX7_far_27 : decode cX7_far 27 = .ok (.ireturn, 1) := by decide +kernel
set_option maxRecDepth 20000 in
theorem ggX7_fromAt_X7_loudOf : GoodIn wsX7_fromAt wsX7_loudOf := goodIn_r _ [6, 7, 8, 9, 10, 11, 5, 12, 16, 17, 18, 19, 20, 21, 22, 23, 24, 25, 26, 27, 28, 29, 30, 31, 32, 33, 34, 35, 36, 37, 38, 39, 40, 41, 42, 43, 44, 45, 46, 47, 48, 49, 50, 51, 52, 53, 54, 55] (by decide +kernel) (by decide +kernel)
set_option maxRecDepth 20000 in
theorem gX7_fromAt_X7_loudOf : GoodIn wsX7_fromAt (wsV RX7 157 RX7 yX7_loudOf wsX7_loudOf) := goodIn_app (goodIn_of _ (by decide +kernel)) ggX7_fromAt_X7_loudOf
set_option maxRecDepth 20000 in
theorem ggX7_fromAt_X7_far : GoodIn wsX7_fromAt wsX7_far := goodIn_r _ [15] (by decide +kernel) (by decide +kernel)
set_option maxRecDepth 20000 in
theorem gX7_fromAt_X7_far : GoodIn wsX7_fromAt (va_wsS RX7 167 yX7_far wsX7_far) := goodIn_app (goodIn_of _ (by decide +kernel)) ggX7_fromAt_X7_far
theorem dX7_fromAt_0 : decode cX7_fromAt 0 = .ok (.aload_n 0, 1) := by decide +kernel
theorem dX7_fromAt_1 : decode cX7_fromAt 1 = .ok (.getfield 16, 3) := by decide +kernel
theorem dX7_fromAt_4 : decode cX7_fromAt 4 = .ok (.iload_n 1, 1) := by decide +kernel
theorem dX7_fromAt_5 : decode cX7_fromAt 5 = .ok (.iaload, 1) := by decide +kernel
theorem dX7_fromAt_6 : decode cX7_fromAt 6 = .ok (.iload_n 2, 1) := by decide +kernel
theorem dX7_fromAt_7 : decode cX7_fromAt 7 = .ok (.if_icmp .ne 7, 3) := by decide +kernel
theorem dX7_fromAt_10 : decode cX7_fromAt 10 = .ok (.iconst 0, 1) := by decide +kernel
theorem dX7_fromAt_11 : decode cX7_fromAt 11 = .ok (.goto 21, 3) := by decide +kernel
theorem dX7_fromAt_14 : decode cX7_fromAt 14 = .ok (.iconst 4, 1) := by decide +kernel
theorem dX7_fromAt_15 : decode cX7_fromAt 15 = .ok (.aload_n 0, 1) := by decide +kernel
theorem dX7_fromAt_16 : decode cX7_fromAt 16 = .ok (.iload_n 1, 1) := by decide +kernel
theorem dX7_fromAt_17 : decode cX7_fromAt 17 = .ok (.invokevirtual 157, 3) := by decide +kernel
theorem dX7_fromAt_20 : decode cX7_fromAt 20 = .ok (.imul, 1) := by decide +kernel
theorem dX7_fromAt_21 : decode cX7_fromAt 21 = .ok (.aload_n 0, 1) := by decide +kernel
theorem dX7_fromAt_22 : decode cX7_fromAt 22 = .ok (.getfield 16, 3) := by decide +kernel
theorem dX7_fromAt_25 : decode cX7_fromAt 25 = .ok (.iload_n 1, 1) := by decide +kernel
theorem dX7_fromAt_26 : decode cX7_fromAt 26 = .ok (.iaload, 1) := by decide +kernel
theorem dX7_fromAt_27 : decode cX7_fromAt 27 = .ok (.iload_n 2, 1) := by decide +kernel
theorem dX7_fromAt_28 : decode cX7_fromAt 28 = .ok (.invokestatic 167, 3) := by decide +kernel
theorem dX7_fromAt_31 : decode cX7_fromAt 31 = .ok (.idiv, 1) := by decide +kernel
theorem dX7_fromAt_32 : decode cX7_fromAt 32 = .ok (.ireturn, 1) := by decide +kernel
set_option maxRecDepth 20000 in
theorem ggX7_noiseAt_X7_echo : GoodIn wsX7_noiseAt wsX7_echo := goodIn_r _ [6, 7, 8, 9, 10, 5, 11, 1, 12, 13, 14, 15, 16, 17, 18, 19, 20, 21, 22, 23, 24, 25, 26, 35, 36, 37, 38, 39, 40, 41, 42, 43, 44, 45, 46, 47, 48, 49, 50, 51, 52, 53, 54, 55, 56, 57, 58, 59, 60, 61, 62, 63, 64, 65, 66, 67, 68, 69, 70, 71, 72, 73, 74] (by decide +kernel) (by decide +kernel)
set_option maxRecDepth 20000 in
theorem gX7_noiseAt_X7_echo : GoodIn wsX7_noiseAt (wsV RX7 170 RX7 yX7_echo wsX7_echo) := goodIn_app (goodIn_of _ (by decide +kernel)) ggX7_noiseAt_X7_echo
set_option maxRecDepth 20000 in
theorem ggX7_noiseAt_X7_fromAt : GoodIn wsX7_noiseAt wsX7_fromAt := goodIn_r _ [30, 31, 12, 13, 14, 5, 15, 16, 17, 18, 19, 20, 21, 32, 33, 34, 35, 36, 37, 38, 39, 40, 41, 42, 43, 44, 45, 46, 47, 48, 49, 50, 51, 52, 53, 54, 55, 56, 57, 58, 59, 60, 61, 62, 63, 64, 65, 66, 67, 68, 69, 70, 71, 72, 73, 74] (by decide +kernel) (by decide +kernel)
set_option maxRecDepth 20000 in
theorem gX7_noiseAt_X7_fromAt : GoodIn wsX7_noiseAt (wsV RX7 173 RX7 yX7_fromAt wsX7_fromAt) := goodIn_app (goodIn_of _ (by decide +kernel)) ggX7_noiseAt_X7_fromAt
theorem dX7_noiseAt_0 : decode cX7_noiseAt 0 = .ok (.aload_n 0, 1) := by decide +kernel
theorem dX7_noiseAt_1 : decode cX7_noiseAt 1 = .ok (.invokevirtual 170, 3) := by decide +kernel
theorem dX7_noiseAt_4 : decode cX7_noiseAt 4 = .ok (.istore_n 2, 1) := by decide +kernel
theorem dX7_noiseAt_5 : decode cX7_noiseAt 5 = .ok (.iconst 0, 1) := by decide +kernel
theorem dX7_noiseAt_6 : decode cX7_noiseAt 6 = .ok (.istore_n 3, 1) := by decide +kernel
theorem dX7_noiseAt_7 : decode cX7_noiseAt 7 = .ok (.iload_n 3, 1) := by decide +kernel
theorem dX7_noiseAt_8 : decode cX7_noiseAt 8 = .ok (.aload_n 0, 1) := by decide +kernel
theorem dX7_noiseAt_9 : decode cX7_noiseAt 9 = .ok (.getfield 141, 3) := by decide +kernel
theorem dX7_noiseAt_12 : decode cX7_noiseAt 12 = .ok (.if_icmp .ge 18, 3) := by decide +kernel
theorem dX7_noiseAt_15 : decode cX7_noiseAt 15 = .ok (.iload_n 2, 1) := by decide +kernel
theorem dX7_noiseAt_16 : decode cX7_noiseAt 16 = .ok (.aload_n 0, 1) := by decide +kernel
theorem dX7_noiseAt_17 : decode cX7_noiseAt 17 = .ok (.iload_n 3, 1) := by decide +kernel
theorem dX7_noiseAt_18 : decode cX7_noiseAt 18 = .ok (.iload_n 1, 1) := by decide +kernel
theorem dX7_noiseAt_19 : decode cX7_noiseAt 19 = .ok (.invokevirtual 173, 3) := by decide +kernel
theorem dX7_noiseAt_22 : decode cX7_noiseAt 22 = .ok (.iadd, 1) := by decide +kernel
theorem dX7_noiseAt_23 : decode cX7_noiseAt 23 = .ok (.istore_n 2, 1) := by decide +kernel
theorem dX7_noiseAt_24 : decode cX7_noiseAt 24 = .ok (.iinc 3 1, 3) := by decide +kernel
theorem dX7_noiseAt_27 : decode cX7_noiseAt 27 = .ok (.goto (-20), 3) := by decide +kernel
theorem dX7_noiseAt_30 : decode cX7_noiseAt 30 = .ok (.iload_n 2, 1) := by decide +kernel
theorem dX7_noiseAt_31 : decode cX7_noiseAt 31 = .ok (.ireturn, 1) := by decide +kernel
theorem dX7_soundOf_0 : decode cX7_soundOf 0 = .ok (.aload_n 0, 1) := by decide +kernel
theorem dX7_soundOf_1 : decode cX7_soundOf 1 = .ok (.getfield 19, 3) := by decide +kernel
theorem dX7_soundOf_4 : decode cX7_soundOf 4 = .ok (.iload_n 1, 1) := by decide +kernel
theorem dX7_soundOf_5 : decode cX7_soundOf 5 = .ok (.iaload, 1) := by decide +kernel
theorem dX7_soundOf_6 : decode cX7_soundOf 6 = .ok (.istore_n 3, 1) := by decide +kernel
theorem dX7_soundOf_7 : decode cX7_soundOf 7 = .ok (.aload_n 0, 1) := by decide +kernel
theorem dX7_soundOf_8 : decode cX7_soundOf 8 = .ok (.getfield 13, 3) := by decide +kernel
theorem dX7_soundOf_11 : decode cX7_soundOf 11 = .ok (.iload_n 1, 1) := by decide +kernel
theorem dX7_soundOf_12 : decode cX7_soundOf 12 = .ok (.iaload, 1) := by decide +kernel
theorem dX7_soundOf_13 : decode cX7_soundOf 13 = .ok (.iconst 3, 1) := by decide +kernel
theorem dX7_soundOf_14 : decode cX7_soundOf 14 = .ok (.if_icmp .eq 7, 3) := by decide +kernel
theorem dX7_soundOf_17 : decode cX7_soundOf 17 = .ok (.iload_n 3, 1) := by decide +kernel
theorem dX7_soundOf_18 : decode cX7_soundOf 18 = .ok (.goto 15, 3) := by decide +kernel
theorem dX7_soundOf_21 : decode cX7_soundOf 21 = .ok (.iload_n 3, 1) := by decide +kernel
theorem dX7_soundOf_22 : decode cX7_soundOf 22 = .ok (.iconst 3, 1) := by decide +kernel
theorem dX7_soundOf_23 : decode cX7_soundOf 23 = .ok (.if_icmp .le 9, 3) := by decide +kernel
theorem dX7_soundOf_26 : decode cX7_soundOf 26 = .ok (.iload_n 3, 1) := by decide +kernel
theorem dX7_soundOf_27 : decode cX7_soundOf 27 = .ok (.iconst 2, 1) := by decide +kernel
theorem dX7_soundOf_28 : decode cX7_soundOf 28 = .ok (.isub, 1) := by decide +kernel
theorem dX7_soundOf_29 : decode cX7_soundOf 29 = .ok (.goto 4, 3) := by decide +kernel
theorem dX7_soundOf_32 : decode cX7_soundOf 32 = .ok (.iconst 1, 1) := by decide +kernel
theorem dX7_soundOf_33 : decode cX7_soundOf 33 = .ok (.istore 4, 2) := by decide +kernel
theorem dX7_soundOf_35 : decode cX7_soundOf 35 = .ok (.bipush 8, 2) := by decide +kernel
theorem dX7_soundOf_37 : decode cX7_soundOf 37 = .ok (.iload_n 2, 1) := by decide +kernel
theorem dX7_soundOf_38 : decode cX7_soundOf 38 = .ok (.imul, 1) := by decide +kernel
theorem dX7_soundOf_39 : decode cX7_soundOf 39 = .ok (.iload 4, 2) := by decide +kernel
theorem dX7_soundOf_41 : decode cX7_soundOf 41 = .ok (.idiv, 1) := by decide +kernel
theorem dX7_soundOf_42 : decode cX7_soundOf 42 = .ok (.ireturn, 1) := by decide +kernel
theorem dX7_would_0 : decode cX7_would 0 = .ok (.aload_n 0, 1) := by decide +kernel
theorem dX7_would_1 : decode cX7_would 1 = .ok (.getfield 19, 3) := by decide +kernel
theorem dX7_would_4 : decode cX7_would 4 = .ok (.iload_n 1, 1) := by decide +kernel
theorem dX7_would_5 : decode cX7_would 5 = .ok (.iaload, 1) := by decide +kernel
theorem dX7_would_6 : decode cX7_would 6 = .ok (.iconst 1, 1) := by decide +kernel
theorem dX7_would_7 : decode cX7_would 7 = .ok (.if_icmp .eq 31, 3) := by decide +kernel
theorem dX7_would_10 : decode cX7_would 10 = .ok (.aload_n 0, 1) := by decide +kernel
theorem dX7_would_11 : decode cX7_would 11 = .ok (.getfield 13, 3) := by decide +kernel
theorem dX7_would_14 : decode cX7_would 14 = .ok (.iload_n 1, 1) := by decide +kernel
theorem dX7_would_15 : decode cX7_would 15 = .ok (.iaload, 1) := by decide +kernel
theorem dX7_would_16 : decode cX7_would 16 = .ok (.iconst 4, 1) := by decide +kernel
theorem dX7_would_17 : decode cX7_would 17 = .ok (.if_icmp .eq 21, 3) := by decide +kernel
theorem dX7_would_20 : decode cX7_would 20 = .ok (.bipush 10, 2) := by decide +kernel
theorem dX7_would_22 : decode cX7_would 22 = .ok (.iload_n 2, 1) := by decide +kernel
theorem dX7_would_23 : decode cX7_would 23 = .ok (.imul, 1) := by decide +kernel
theorem dX7_would_24 : decode cX7_would 24 = .ok (.iload_n 3, 1) := by decide +kernel
theorem dX7_would_25 : decode cX7_would 25 = .ok (.bipush 10, 2) := by decide +kernel
theorem dX7_would_27 : decode cX7_would 27 = .ok (.aload_n 0, 1) := by decide +kernel
theorem dX7_would_28 : decode cX7_would 28 = .ok (.getfield 25, 3) := by decide +kernel
theorem dX7_would_31 : decode cX7_would 31 = .ok (.iload_n 1, 1) := by decide +kernel
theorem dX7_would_32 : decode cX7_would 32 = .ok (.iaload, 1) := by decide +kernel
theorem dX7_would_33 : decode cX7_would 33 = .ok (.iadd, 1) := by decide +kernel
theorem dX7_would_34 : decode cX7_would 34 = .ok (.imul, 1) := by decide +kernel
theorem dX7_would_35 : decode cX7_would 35 = .ok (.if_icmp .lt 7, 3) := by decide +kernel
theorem dX7_would_38 : decode cX7_would 38 = .ok (.iconst 1, 1) := by decide +kernel
theorem dX7_would_39 : decode cX7_would 39 = .ok (.goto 4, 3) := by decide +kernel
theorem dX7_would_42 : decode cX7_would 42 = .ok (.iconst 0, 1) := by decide +kernel
theorem dX7_would_43 : decode cX7_would 43 = .ok (.ireturn, 1) := by decide +kernel
set_option maxRecDepth 20000 in
theorem ggX7_hears_X7_loudOf : GoodIn wsX7_hears wsX7_loudOf := goodIn_r _ [6, 7, 8, 9, 10, 11, 5, 12, 49, 50, 51, 52, 53, 54, 55, 56, 57, 58, 59, 60, 61, 62, 63, 64, 65, 66, 67, 68, 69, 70, 71, 72, 73, 74, 75, 76, 77, 78, 79, 80, 81, 82, 83, 84, 85, 86, 87, 88] (by decide +kernel) (by decide +kernel)
set_option maxRecDepth 20000 in
theorem gX7_hears_X7_loudOf : GoodIn wsX7_hears (wsV RX7 157 RX7 yX7_loudOf wsX7_loudOf) := goodIn_app (goodIn_of _ (by decide +kernel)) ggX7_hears_X7_loudOf
set_option maxRecDepth 20000 in
theorem ggX7_hears_X7_soundOf : GoodIn wsX7_hears wsX7_soundOf := goodIn_r _ [16, 7, 17, 49, 50, 51, 52, 53, 54, 55, 56, 57, 58, 59, 60, 61, 62, 63, 64, 65, 66, 67, 68, 69, 70, 71, 72, 73, 74, 75, 76, 77, 78, 79, 80, 81, 82, 83, 84, 85, 86, 87, 88] (by decide +kernel) (by decide +kernel)
set_option maxRecDepth 20000 in
theorem gX7_hears_X7_soundOf : GoodIn wsX7_hears (wsV RX7 176 RX7 yX7_soundOf wsX7_soundOf) := goodIn_app (goodIn_of _ (by decide +kernel)) ggX7_hears_X7_soundOf
set_option maxRecDepth 20000 in
theorem ggX7_hears_X7_noiseAt : GoodIn wsX7_hears wsX7_noiseAt := goodIn_r _ [21, 22, 23, 24, 25, 5, 26, 27, 28, 29, 30, 31, 2, 3, 4, 6, 7, 8, 9, 10, 11, 12, 32, 33, 34, 35, 36, 37, 38, 39, 40, 1, 41, 42, 43, 49, 50, 51, 52, 53, 54, 55, 56, 57, 58, 59, 60, 61, 62, 63, 64, 65, 66, 67, 68, 69, 70, 71, 72, 73, 74, 75, 76, 77, 78, 79, 80, 81, 82, 83, 84, 85, 86, 87, 88] (by decide +kernel) (by decide +kernel)
set_option maxRecDepth 20000 in
theorem gX7_hears_X7_noiseAt : GoodIn wsX7_hears (wsV RX7 179 RX7 yX7_noiseAt wsX7_noiseAt) := goodIn_app (goodIn_of _ (by decide +kernel)) ggX7_hears_X7_noiseAt
set_option maxRecDepth 20000 in
theorem ggX7_hears_X7_would : GoodIn wsX7_hears wsX7_would := goodIn_r _ [47, 7, 17, 48, 49, 50, 51, 52, 53, 54, 55, 56, 57, 58, 59, 60, 61, 62, 63, 64, 65, 66, 67, 68, 69, 70, 71, 72, 73, 74, 75, 76, 77, 78, 79, 80, 81, 82, 83, 84, 85, 86, 87, 88] (by decide +kernel) (by decide +kernel)
set_option maxRecDepth 20000 in
theorem gX7_hears_X7_would : GoodIn wsX7_hears (wsV RX7 182 RX7 yX7_would wsX7_would) := goodIn_app (goodIn_of _ (by decide +kernel)) ggX7_hears_X7_would
theorem dX7_hears_0 : decode cX7_hears 0 = .ok (.aload_n 0, 1) := by decide +kernel
theorem dX7_hears_1 : decode cX7_hears 1 = .ok (.iload_n 1, 1) := by decide +kernel
theorem dX7_hears_2 : decode cX7_hears 2 = .ok (.aload_n 0, 1) := by decide +kernel
theorem dX7_hears_3 : decode cX7_hears 3 = .ok (.iload_n 1, 1) := by decide +kernel
theorem dX7_hears_4 : decode cX7_hears 4 = .ok (.aload_n 0, 1) := by decide +kernel
theorem dX7_hears_5 : decode cX7_hears 5 = .ok (.iload_n 1, 1) := by decide +kernel
theorem dX7_hears_6 : decode cX7_hears 6 = .ok (.invokevirtual 157, 3) := by decide +kernel
theorem dX7_hears_9 : decode cX7_hears 9 = .ok (.invokevirtual 176, 3) := by decide +kernel
theorem dX7_hears_12 : decode cX7_hears 12 = .ok (.aload_n 0, 1) := by decide +kernel
theorem dX7_hears_13 : decode cX7_hears 13 = .ok (.aload_n 0, 1) := by decide +kernel
theorem dX7_hears_14 : decode cX7_hears 14 = .ok (.getfield 16, 3) := by decide +kernel
theorem dX7_hears_17 : decode cX7_hears 17 = .ok (.iload_n 1, 1) := by decide +kernel
theorem dX7_hears_18 : decode cX7_hears 18 = .ok (.iaload, 1) := by decide +kernel
theorem dX7_hears_19 : decode cX7_hears 19 = .ok (.invokevirtual 179, 3) := by decide +kernel
theorem dX7_hears_22 : decode cX7_hears 22 = .ok (.invokevirtual 182, 3) := by decide +kernel
theorem dX7_hears_25 : decode cX7_hears 25 = .ok (.ireturn, 1) := by decide +kernel
set_option maxRecDepth 20000 in
theorem ggX7_allHear_X7_hears : GoodIn wsX7_allHear wsX7_hears := goodIn_r _ [6, 7, 8, 9, 10, 5, 11, 12, 13, 14, 15, 16, 17, 18, 19, 20, 21, 22, 23, 24, 25, 26, 1, 27, 28, 29, 30, 31, 32, 33, 34, 35, 36, 37, 38, 39, 40, 41, 42, 43, 44, 45, 46, 47, 48, 49, 50, 51, 52, 53, 54, 55, 56, 57, 58, 59, 60, 61, 62, 63, 64, 65, 66, 67, 68, 69, 70, 71, 72, 73, 74, 75, 76, 77, 78, 79, 80, 81, 82, 83, 84, 85, 86, 87, 88, 89, 90, 91, 92] (by decide +kernel) (by decide +kernel)
set_option maxRecDepth 20000 in
theorem gX7_allHear_X7_hears : GoodIn wsX7_allHear (wsV RX7 186 RX7 yX7_hears wsX7_hears) := goodIn_app (goodIn_of _ (by decide +kernel)) ggX7_allHear_X7_hears
theorem dX7_allHear_0 : decode cX7_allHear 0 = .ok (.iconst 1, 1) := by decide +kernel
theorem dX7_allHear_1 : decode cX7_allHear 1 = .ok (.istore_n 1, 1) := by decide +kernel
theorem dX7_allHear_2 : decode cX7_allHear 2 = .ok (.iconst 0, 1) := by decide +kernel
theorem dX7_allHear_3 : decode cX7_allHear 3 = .ok (.istore_n 2, 1) := by decide +kernel
theorem dX7_allHear_4 : decode cX7_allHear 4 = .ok (.iload_n 2, 1) := by decide +kernel
theorem dX7_allHear_5 : decode cX7_allHear 5 = .ok (.aload_n 0, 1) := by decide +kernel
theorem dX7_allHear_6 : decode cX7_allHear 6 = .ok (.getfield 141, 3) := by decide +kernel
theorem dX7_allHear_9 : decode cX7_allHear 9 = .ok (.if_icmp .ge 19, 3) := by decide +kernel
theorem dX7_allHear_12 : decode cX7_allHear 12 = .ok (.iload_n 1, 1) := by decide +kernel
theorem dX7_allHear_13 : decode cX7_allHear 13 = .ok (.ifCond .eq 15, 3) := by decide +kernel
theorem dX7_allHear_16 : decode cX7_allHear 16 = .ok (.aload_n 0, 1) := by decide +kernel
theorem dX7_allHear_17 : decode cX7_allHear 17 = .ok (.iload_n 2, 1) := by decide +kernel
theorem dX7_allHear_18 : decode cX7_allHear 18 = .ok (.invokevirtual 186, 3) := by decide +kernel
theorem dX7_allHear_21 : decode cX7_allHear 21 = .ok (.istore_n 1, 1) := by decide +kernel
theorem dX7_allHear_22 : decode cX7_allHear 22 = .ok (.iinc 2 1, 3) := by decide +kernel
theorem dX7_allHear_25 : decode cX7_allHear 25 = .ok (.goto (-21), 3) := by decide +kernel
theorem dX7_allHear_28 : decode cX7_allHear 28 = .ok (.iload_n 1, 1) := by decide +kernel
theorem dX7_allHear_29 : decode cX7_allHear 29 = .ok (.ireturn, 1) := by decide +kernel
set_option maxRecDepth 20000 in
theorem ggX7_voiceThen_X7_noiseAt : GoodIn wsX7_voiceThen wsX7_noiseAt := goodIn_r _ [9, 10, 11, 12, 13, 8, 14, 15, 16, 17, 18, 19, 20, 21, 22, 23, 1, 24, 3, 25, 26, 27, 28, 29, 30, 31, 32, 33, 34, 35, 36, 4, 37, 38, 39, 49, 50, 51, 52, 53, 54, 55, 56, 57, 58, 59, 60, 61, 62, 63, 64, 65, 66, 67, 68, 69, 70, 71, 72, 73, 74, 75, 76, 77, 78, 79, 80, 81, 82, 83, 84, 85, 86, 87, 88] (by decide +kernel) (by decide +kernel)
set_option maxRecDepth 20000 in
theorem gX7_voiceThen_X7_noiseAt : GoodIn wsX7_voiceThen (wsV RX7 179 RX7 yX7_noiseAt wsX7_noiseAt) := goodIn_app (goodIn_of _ (by decide +kernel)) ggX7_voiceThen_X7_noiseAt
set_option maxRecDepth 20000 in
theorem ggX7_voiceThen_X7_loudOf : GoodIn wsX7_voiceThen wsX7_loudOf := goodIn_r _ [23, 1, 24, 3, 25, 26, 8, 27, 49, 50, 51, 52, 53, 54, 55, 56, 57, 58, 59, 60, 61, 62, 63, 64, 65, 66, 67, 68, 69, 70, 71, 72, 73, 74, 75, 76, 77, 78, 79, 80, 81, 82, 83, 84, 85, 86, 87, 88] (by decide +kernel) (by decide +kernel)
set_option maxRecDepth 20000 in
theorem gX7_voiceThen_X7_loudOf : GoodIn wsX7_voiceThen (wsV RX7 157 RX7 yX7_loudOf wsX7_loudOf) := goodIn_app (goodIn_of _ (by decide +kernel)) ggX7_voiceThen_X7_loudOf
set_option maxRecDepth 20000 in
theorem ggX7_voiceThen_X7_soundOf : GoodIn wsX7_voiceThen wsX7_soundOf := goodIn_r _ [43, 1, 2, 49, 50, 51, 52, 53, 54, 55, 56, 57, 58, 59, 60, 61, 62, 63, 64, 65, 66, 67, 68, 69, 70, 71, 72, 73, 74, 75, 76, 77, 78, 79, 80, 81, 82, 83, 84, 85, 86, 87, 88] (by decide +kernel) (by decide +kernel)
set_option maxRecDepth 20000 in
theorem gX7_voiceThen_X7_soundOf : GoodIn wsX7_voiceThen (wsV RX7 176 RX7 yX7_soundOf wsX7_soundOf) := goodIn_app (goodIn_of _ (by decide +kernel)) ggX7_voiceThen_X7_soundOf
set_option maxRecDepth 20000 in
theorem ggX7_voiceThen_X7_would : GoodIn wsX7_voiceThen wsX7_would := goodIn_r _ [47, 1, 2, 48, 49, 50, 51, 52, 53, 54, 55, 56, 57, 58, 59, 60, 61, 62, 63, 64, 65, 66, 67, 68, 69, 70, 71, 72, 73, 74, 75, 76, 77, 78, 79, 80, 81, 82, 83, 84, 85, 86, 87, 88] (by decide +kernel) (by decide +kernel)
set_option maxRecDepth 20000 in
theorem gX7_voiceThen_X7_would : GoodIn wsX7_voiceThen (wsV RX7 182 RX7 yX7_would wsX7_would) := goodIn_app (goodIn_of _ (by decide +kernel)) ggX7_voiceThen_X7_would
theorem dX7_voiceThen_0 : decode cX7_voiceThen 0 = .ok (.aload_n 0, 1) := by decide +kernel
theorem dX7_voiceThen_1 : decode cX7_voiceThen 1 = .ok (.getfield 19, 3) := by decide +kernel
theorem dX7_voiceThen_4 : decode cX7_voiceThen 4 = .ok (.iload_n 1, 1) := by decide +kernel
theorem dX7_voiceThen_5 : decode cX7_voiceThen 5 = .ok (.iaload, 1) := by decide +kernel
theorem dX7_voiceThen_6 : decode cX7_voiceThen 6 = .ok (.iconst 1, 1) := by decide +kernel
theorem dX7_voiceThen_7 : decode cX7_voiceThen 7 = .ok (.if_icmp .eq 13, 3) := by decide +kernel
theorem dX7_voiceThen_10 : decode cX7_voiceThen 10 = .ok (.aload_n 0, 1) := by decide +kernel
theorem dX7_voiceThen_11 : decode cX7_voiceThen 11 = .ok (.getfield 13, 3) := by decide +kernel
theorem dX7_voiceThen_14 : decode cX7_voiceThen 14 = .ok (.iload_n 1, 1) := by decide +kernel
theorem dX7_voiceThen_15 : decode cX7_voiceThen 15 = .ok (.iaload, 1) := by decide +kernel
theorem dX7_voiceThen_16 : decode cX7_voiceThen 16 = .ok (.iconst 4, 1) := by decide +kernel
theorem dX7_voiceThen_17 : decode cX7_voiceThen 17 = .ok (.if_icmp .ne 10, 3) := by decide +kernel
theorem dX7_voiceThen_20 : decode cX7_voiceThen 20 = .ok (.aload_n 0, 1) := by decide +kernel
theorem dX7_voiceThen_21 : decode cX7_voiceThen 21 = .ok (.getfield 56, 3) := by decide +kernel
theorem dX7_voiceThen_24 : decode cX7_voiceThen 24 = .ok (.iload_n 1, 1) := by decide +kernel
theorem dX7_voiceThen_25 : decode cX7_voiceThen 25 = .ok (.iaload, 1) := by decide +kernel
theorem dX7_voiceThen_26 : decode cX7_voiceThen 26 = .ok (.ireturn, 1) := by decide +kernel
theorem dX7_voiceThen_27 : decode cX7_voiceThen 27 = .ok (.aload_n 0, 1) := by decide +kernel
theorem dX7_voiceThen_28 : decode cX7_voiceThen 28 = .ok (.aload_n 0, 1) := by decide +kernel
theorem dX7_voiceThen_29 : decode cX7_voiceThen 29 = .ok (.getfield 16, 3) := by decide +kernel
theorem dX7_voiceThen_32 : decode cX7_voiceThen 32 = .ok (.iload_n 1, 1) := by decide +kernel
theorem dX7_voiceThen_33 : decode cX7_voiceThen 33 = .ok (.iaload, 1) := by decide +kernel
theorem dX7_voiceThen_34 : decode cX7_voiceThen 34 = .ok (.invokevirtual 179, 3) := by decide +kernel
theorem dX7_voiceThen_37 : decode cX7_voiceThen 37 = .ok (.istore_n 2, 1) := by decide +kernel
theorem dX7_voiceThen_38 : decode cX7_voiceThen 38 = .ok (.aload_n 0, 1) := by decide +kernel
theorem dX7_voiceThen_39 : decode cX7_voiceThen 39 = .ok (.iload_n 1, 1) := by decide +kernel
theorem dX7_voiceThen_40 : decode cX7_voiceThen 40 = .ok (.aload_n 0, 1) := by decide +kernel
theorem dX7_voiceThen_41 : decode cX7_voiceThen 41 = .ok (.iload_n 1, 1) := by decide +kernel
theorem dX7_voiceThen_42 : decode cX7_voiceThen 42 = .ok (.invokevirtual 157, 3) := by decide +kernel
theorem dX7_voiceThen_45 : decode cX7_voiceThen 45 = .ok (.invokevirtual 176, 3) := by decide +kernel
theorem dX7_voiceThen_48 : decode cX7_voiceThen 48 = .ok (.istore_n 3, 1) := by decide +kernel
theorem dX7_voiceThen_49 : decode cX7_voiceThen 49 = .ok (.aload_n 0, 1) := by decide +kernel
theorem dX7_voiceThen_50 : decode cX7_voiceThen 50 = .ok (.iload_n 1, 1) := by decide +kernel
theorem dX7_voiceThen_51 : decode cX7_voiceThen 51 = .ok (.iload_n 3, 1) := by decide +kernel
theorem dX7_voiceThen_52 : decode cX7_voiceThen 52 = .ok (.iload_n 2, 1) := by decide +kernel
theorem dX7_voiceThen_53 : decode cX7_voiceThen 53 = .ok (.invokevirtual 182, 3) := by decide +kernel
theorem dX7_voiceThen_56 : decode cX7_voiceThen 56 = .ok (.ifCond .ne 85, 3) := by decide +kernel
theorem dX7_voiceThen_59 : decode cX7_voiceThen 59 = .ok (.aload_n 0, 1) := by decide +kernel
theorem dX7_voiceThen_60 : decode cX7_voiceThen 60 = .ok (.getfield 13, 3) := by decide +kernel
theorem dX7_voiceThen_63 : decode cX7_voiceThen 63 = .ok (.iload_n 1, 1) := by decide +kernel
theorem dX7_voiceThen_64 : decode cX7_voiceThen 64 = .ok (.iaload, 1) := by decide +kernel
theorem dX7_voiceThen_65 : decode cX7_voiceThen 65 = .ok (.iconst 1, 1) := by decide +kernel
theorem dX7_voiceThen_66 : decode cX7_voiceThen 66 = .ok (.if_icmp .ne 19, 3) := by decide +kernel
theorem dX7_voiceThen_69 : decode cX7_voiceThen 69 = .ok (.aload_n 0, 1) := by decide +kernel
theorem dX7_voiceThen_70 : decode cX7_voiceThen 70 = .ok (.iload_n 1, 1) := by decide +kernel
theorem dX7_voiceThen_71 : decode cX7_voiceThen 71 = .ok (.iconst 2, 1) := by decide +kernel
theorem dX7_voiceThen_72 : decode cX7_voiceThen 72 = .ok (.iload_n 3, 1) := by decide +kernel
theorem dX7_voiceThen_73 : decode cX7_voiceThen 73 = .ok (.imul, 1) := by decide +kernel
theorem dX7_voiceThen_74 : decode cX7_voiceThen 74 = .ok (.iload_n 2, 1) := by decide +kernel
theorem dX7_voiceThen_75 : decode cX7_voiceThen 75 = .ok (.invokevirtual 182, 3) := by decide +kernel
theorem dX7_voiceThen_78 : decode cX7_voiceThen 78 = .ok (.ifCond .eq 7, 3) := by decide +kernel
theorem dX7_voiceThen_81 : decode cX7_voiceThen 81 = .ok (.iconst 1, 1) := by decide +kernel
theorem dX7_voiceThen_82 : decode cX7_voiceThen 82 = .ok (.goto 4, 3) := by decide +kernel
theorem dX7_voiceThen_85 : decode cX7_voiceThen 85 = .ok (.iconst 0, 1) := by decide +kernel
theorem dX7_voiceThen_86 : decode cX7_voiceThen 86 = .ok (.istore 4, 2) := by decide +kernel
theorem dX7_voiceThen_88 : decode cX7_voiceThen 88 = .ok (.aload_n 0, 1) := by decide +kernel
theorem dX7_voiceThen_89 : decode cX7_voiceThen 89 = .ok (.getfield 56, 3) := by decide +kernel
theorem dX7_voiceThen_92 : decode cX7_voiceThen 92 = .ok (.iload_n 1, 1) := by decide +kernel
theorem dX7_voiceThen_93 : decode cX7_voiceThen 93 = .ok (.iaload, 1) := by decide +kernel
theorem dX7_voiceThen_94 : decode cX7_voiceThen 94 = .ok (.aload_n 0, 1) := by decide +kernel
theorem dX7_voiceThen_95 : decode cX7_voiceThen 95 = .ok (.getfield 13, 3) := by decide +kernel
theorem dX7_voiceThen_98 : decode cX7_voiceThen 98 = .ok (.iload_n 1, 1) := by decide +kernel
theorem dX7_voiceThen_99 : decode cX7_voiceThen 99 = .ok (.iaload, 1) := by decide +kernel
theorem dX7_voiceThen_100 : decode cX7_voiceThen 100 = .ok (.iconst 2, 1) := by decide +kernel
theorem dX7_voiceThen_101 : decode cX7_voiceThen 101 = .ok (.if_icmp .ne 7, 3) := by decide +kernel
theorem dX7_voiceThen_104 : decode cX7_voiceThen 104 = .ok (.iconst 2, 1) := by decide +kernel
theorem dX7_voiceThen_105 : decode cX7_voiceThen 105 = .ok (.goto 4, 3) := by decide +kernel
theorem dX7_voiceThen_108 : decode cX7_voiceThen 108 = .ok (.iconst 1, 1) := by decide +kernel
theorem dX7_voiceThen_109 : decode cX7_voiceThen 109 = .ok (.iadd, 1) := by decide +kernel
theorem dX7_voiceThen_110 : decode cX7_voiceThen 110 = .ok (.istore 5, 2) := by decide +kernel
theorem dX7_voiceThen_112 : decode cX7_voiceThen 112 = .ok (.iload 4, 2) := by decide +kernel
theorem dX7_voiceThen_114 : decode cX7_voiceThen 114 = .ok (.ifCond .eq 12, 3) := by decide +kernel
theorem dX7_voiceThen_117 : decode cX7_voiceThen 117 = .ok (.aload_n 0, 1) := by decide +kernel
theorem dX7_voiceThen_118 : decode cX7_voiceThen 118 = .ok (.getfield 56, 3) := by decide +kernel
theorem dX7_voiceThen_121 : decode cX7_voiceThen 121 = .ok (.iload_n 1, 1) := by decide +kernel
theorem dX7_voiceThen_122 : decode cX7_voiceThen 122 = .ok (.iaload, 1) := by decide +kernel
theorem dX7_voiceThen_123 : decode cX7_voiceThen 123 = .ok (.goto 17, 3) := by decide +kernel
theorem dX7_voiceThen_126 : decode cX7_voiceThen 126 = .ok (.iload 5, 2) := by decide +kernel
theorem dX7_voiceThen_128 : decode cX7_voiceThen 128 = .ok (.bipush 9, 2) := by decide +kernel
theorem dX7_voiceThen_130 : decode cX7_voiceThen 130 = .ok (.if_icmp .le 8, 3) := by decide +kernel
theorem dX7_voiceThen_133 : decode cX7_voiceThen 133 = .ok (.bipush 9, 2) := by decide +kernel
theorem dX7_voiceThen_135 : decode cX7_voiceThen 135 = .ok (.goto 5, 3) := by decide +kernel
theorem dX7_voiceThen_138 : decode cX7_voiceThen 138 = .ok (.iload 5, 2) := by decide +kernel
theorem dX7_voiceThen_140 : decode cX7_voiceThen 140 = .ok (.ireturn, 1) := by decide +kernel
theorem dX7_voiceThen_141 : decode cX7_voiceThen 141 = .ok (.aload_n 0, 1) := by decide +kernel
theorem dX7_voiceThen_142 : decode cX7_voiceThen 142 = .ok (.getfield 56, 3) := by decide +kernel
theorem dX7_voiceThen_145 : decode cX7_voiceThen 145 = .ok (.iload_n 1, 1) := by decide +kernel
theorem dX7_voiceThen_146 : decode cX7_voiceThen 146 = .ok (.iaload, 1) := by decide +kernel
theorem dX7_voiceThen_147 : decode cX7_voiceThen 147 = .ok (.iconst 1, 1) := by decide +kernel
theorem dX7_voiceThen_148 : decode cX7_voiceThen 148 = .ok (.if_icmp .le 31, 3) := by decide +kernel
theorem dX7_voiceThen_151 : decode cX7_voiceThen 151 = .ok (.aload_n 0, 1) := by decide +kernel
theorem dX7_voiceThen_152 : decode cX7_voiceThen 152 = .ok (.iload_n 1, 1) := by decide +kernel
theorem dX7_voiceThen_153 : decode cX7_voiceThen 153 = .ok (.aload_n 0, 1) := by decide +kernel
theorem dX7_voiceThen_154 : decode cX7_voiceThen 154 = .ok (.iload_n 1, 1) := by decide +kernel
theorem dX7_voiceThen_155 : decode cX7_voiceThen 155 = .ok (.iconst 1, 1) := by decide +kernel
theorem dX7_voiceThen_156 : decode cX7_voiceThen 156 = .ok (.aload_n 0, 1) := by decide +kernel
theorem dX7_voiceThen_157 : decode cX7_voiceThen 157 = .ok (.getfield 56, 3) := by decide +kernel
theorem dX7_voiceThen_160 : decode cX7_voiceThen 160 = .ok (.iload_n 1, 1) := by decide +kernel
theorem dX7_voiceThen_161 : decode cX7_voiceThen 161 = .ok (.iaload, 1) := by decide +kernel
theorem dX7_voiceThen_162 : decode cX7_voiceThen 162 = .ok (.iconst 1, 1) := by decide +kernel
theorem dX7_voiceThen_163 : decode cX7_voiceThen 163 = .ok (.isub, 1) := by decide +kernel
theorem dX7_voiceThen_164 : decode cX7_voiceThen 164 = .ok (.ishl, 1) := by decide +kernel
theorem dX7_voiceThen_165 : decode cX7_voiceThen 165 = .ok (.invokevirtual 176, 3) := by decide +kernel
theorem dX7_voiceThen_168 : decode cX7_voiceThen 168 = .ok (.iload_n 2, 1) := by decide +kernel
theorem dX7_voiceThen_169 : decode cX7_voiceThen 169 = .ok (.invokevirtual 182, 3) := by decide +kernel
theorem dX7_voiceThen_172 : decode cX7_voiceThen 172 = .ok (.ifCond .eq 7, 3) := by decide +kernel
theorem dX7_voiceThen_175 : decode cX7_voiceThen 175 = .ok (.iconst 1, 1) := by decide +kernel
theorem dX7_voiceThen_176 : decode cX7_voiceThen 176 = .ok (.goto 4, 3) := by decide +kernel
theorem dX7_voiceThen_179 : decode cX7_voiceThen 179 = .ok (.iconst 0, 1) := by decide +kernel
theorem dX7_voiceThen_180 : decode cX7_voiceThen 180 = .ok (.istore 4, 2) := by decide +kernel
theorem dX7_voiceThen_182 : decode cX7_voiceThen 182 = .ok (.iload 4, 2) := by decide +kernel
theorem dX7_voiceThen_184 : decode cX7_voiceThen 184 = .ok (.ifCond .eq 14, 3) := by decide +kernel
theorem dX7_voiceThen_187 : decode cX7_voiceThen 187 = .ok (.aload_n 0, 1) := by decide +kernel
theorem dX7_voiceThen_188 : decode cX7_voiceThen 188 = .ok (.getfield 56, 3) := by decide +kernel
theorem dX7_voiceThen_191 : decode cX7_voiceThen 191 = .ok (.iload_n 1, 1) := by decide +kernel
theorem dX7_voiceThen_192 : decode cX7_voiceThen 192 = .ok (.iaload, 1) := by decide +kernel
theorem dX7_voiceThen_193 : decode cX7_voiceThen 193 = .ok (.iconst 1, 1) := by decide +kernel
theorem dX7_voiceThen_194 : decode cX7_voiceThen 194 = .ok (.isub, 1) := by decide +kernel
theorem dX7_voiceThen_195 : decode cX7_voiceThen 195 = .ok (.goto 9, 3) := by decide +kernel
theorem dX7_voiceThen_198 : decode cX7_voiceThen 198 = .ok (.aload_n 0, 1) := by decide +kernel
theorem dX7_voiceThen_199 : decode cX7_voiceThen 199 = .ok (.getfield 56, 3) := by decide +kernel
theorem dX7_voiceThen_202 : decode cX7_voiceThen 202 = .ok (.iload_n 1, 1) := by decide +kernel
theorem dX7_voiceThen_203 : decode cX7_voiceThen 203 = .ok (.iaload, 1) := by decide +kernel
theorem dX7_voiceThen_204 : decode cX7_voiceThen 204 = .ok (.ireturn, 1) := by decide +kernel
set_option maxRecDepth 20000 in
theorem ggX7_musicThen_X7_echo : GoodIn wsX7_musicThen wsX7_echo := goodIn_r _ [7, 8, 9, 10, 11, 6, 12, 13, 14, 15, 16, 17, 18, 19, 20, 21, 22, 23, 24, 25, 26, 27, 2, 28, 29, 30, 31, 32, 33, 34, 35, 36, 37, 38, 39, 40, 41, 42, 43, 44, 45, 46, 47, 48, 49, 50, 51, 52, 53, 54, 55, 56, 57, 58, 59, 60, 61, 62, 63, 64, 65, 66, 67] (by decide +kernel) (by decide +kernel)
set_option maxRecDepth 20000 in
theorem gX7_musicThen_X7_echo : GoodIn wsX7_musicThen (wsV RX7 170 RX7 yX7_echo wsX7_echo) := goodIn_app (goodIn_of _ (by decide +kernel)) ggX7_musicThen_X7_echo
set_option maxRecDepth 20000 in
theorem ggX7_musicThen_X7_loudMusic : GoodIn wsX7_musicThen wsX7_loudMusic := goodIn_r _ [27, 2, 28, 29, 30, 31, 32, 33, 34, 35, 36, 37, 38, 39, 40, 41, 42, 43, 44, 45, 46, 47, 48, 49, 50, 51, 52, 53, 54, 55, 56, 57, 58, 59, 60, 61, 62, 63, 64, 65, 66, 67] (by decide +kernel) (by decide +kernel)
set_option maxRecDepth 20000 in
theorem gX7_musicThen_X7_loudMusic : GoodIn wsX7_musicThen (wsV RX7 164 RX7 yX7_loudMusic wsX7_loudMusic) := goodIn_app (goodIn_of _ (by decide +kernel)) ggX7_musicThen_X7_loudMusic
theorem dX7_musicThen_0 : decode cX7_musicThen 0 = .ok (.aload_n 0, 1) := by decide +kernel
theorem dX7_musicThen_1 : decode cX7_musicThen 1 = .ok (.invokevirtual 170, 3) := by decide +kernel
theorem dX7_musicThen_4 : decode cX7_musicThen 4 = .ok (.istore_n 1, 1) := by decide +kernel
theorem dX7_musicThen_5 : decode cX7_musicThen 5 = .ok (.aload_n 0, 1) := by decide +kernel
theorem dX7_musicThen_6 : decode cX7_musicThen 6 = .ok (.getfield 150, 3) := by decide +kernel
theorem dX7_musicThen_9 : decode cX7_musicThen 9 = .ok (.ifCond .eq 11, 3) := by decide +kernel
theorem dX7_musicThen_12 : decode cX7_musicThen 12 = .ok (.iload_n 1, 1) := by decide +kernel
theorem dX7_musicThen_13 : decode cX7_musicThen 13 = .ok (.aload_n 0, 1) := by decide +kernel
theorem dX7_musicThen_14 : decode cX7_musicThen 14 = .ok (.invokevirtual 164, 3) := by decide +kernel
theorem dX7_musicThen_17 : decode cX7_musicThen 17 = .ok (.if_icmp .ne 8, 3) := by decide +kernel
theorem dX7_musicThen_20 : decode cX7_musicThen 20 = .ok (.aload_n 0, 1) := by decide +kernel
theorem dX7_musicThen_21 : decode cX7_musicThen 21 = .ok (.getfield 138, 3) := by decide +kernel
theorem dX7_musicThen_24 : decode cX7_musicThen 24 = .ok (.ireturn, 1) := by decide +kernel
theorem dX7_musicThen_25 : decode cX7_musicThen 25 = .ok (.iload_n 1, 1) := by decide +kernel
theorem dX7_musicThen_26 : decode cX7_musicThen 26 = .ok (.aload_n 0, 1) := by decide +kernel
theorem dX7_musicThen_27 : decode cX7_musicThen 27 = .ok (.invokevirtual 164, 3) := by decide +kernel
theorem dX7_musicThen_30 : decode cX7_musicThen 30 = .ok (.if_icmp .le 26, 3) := by decide +kernel
theorem dX7_musicThen_33 : decode cX7_musicThen 33 = .ok (.aload_n 0, 1) := by decide +kernel
theorem dX7_musicThen_34 : decode cX7_musicThen 34 = .ok (.getfield 138, 3) := by decide +kernel
theorem dX7_musicThen_37 : decode cX7_musicThen 37 = .ok (.bipush 9, 2) := by decide +kernel
theorem dX7_musicThen_39 : decode cX7_musicThen 39 = .ok (.if_icmp .ge 12, 3) := by decide +kernel
theorem dX7_musicThen_42 : decode cX7_musicThen 42 = .ok (.aload_n 0, 1) := by decide +kernel
theorem dX7_musicThen_43 : decode cX7_musicThen 43 = .ok (.getfield 138, 3) := by decide +kernel
theorem dX7_musicThen_46 : decode cX7_musicThen 46 = .ok (.iconst 1, 1) := by decide +kernel
theorem dX7_musicThen_47 : decode cX7_musicThen 47 = .ok (.iadd, 1) := by decide +kernel
theorem dX7_musicThen_48 : decode cX7_musicThen 48 = .ok (.goto 25, 3) := by decide +kernel
theorem dX7_musicThen_51 : decode cX7_musicThen 51 = .ok (.bipush 9, 2) := by decide +kernel
theorem dX7_musicThen_53 : decode cX7_musicThen 53 = .ok (.goto 20, 3) := by decide +kernel
theorem dX7_musicThen_56 : decode cX7_musicThen 56 = .ok (.aload_n 0, 1) := by decide +kernel
theorem dX7_musicThen_57 : decode cX7_musicThen 57 = .ok (.getfield 138, 3) := by decide +kernel
theorem dX7_musicThen_60 : decode cX7_musicThen 60 = .ok (.ifCond .le 12, 3) := by decide +kernel
theorem dX7_musicThen_63 : decode cX7_musicThen 63 = .ok (.aload_n 0, 1) := by decide +kernel
theorem dX7_musicThen_64 : decode cX7_musicThen 64 = .ok (.getfield 138, 3) := by decide +kernel
theorem dX7_musicThen_67 : decode cX7_musicThen 67 = .ok (.iconst 1, 1) := by decide +kernel
theorem dX7_musicThen_68 : decode cX7_musicThen 68 = .ok (.isub, 1) := by decide +kernel
theorem dX7_musicThen_69 : decode cX7_musicThen 69 = .ok (.goto 4, 3) := by decide +kernel
theorem dX7_musicThen_72 : decode cX7_musicThen 72 = .ok (.iconst 0, 1) := by decide +kernel
theorem dX7_musicThen_73 : decode cX7_musicThen 73 = .ok (.ireturn, 1) := by decide +kernel
set_option maxRecDepth 20000 in
theorem ggX7_go_X7_musicThen : GoodIn wsX7_go wsX7_musicThen := goodIn_r _ [9, 10, 4, 11, 12, 13, 8, 14, 15, 16, 17, 18, 19, 1, 20, 21, 22, 23, 24, 25, 3, 26, 27, 28, 29, 30, 31, 32, 59, 60, 61, 62, 63, 64, 65, 66, 67, 68, 69, 70, 71, 72, 73, 74, 75, 76, 77, 78, 79, 80, 81, 82, 83, 84, 85, 86, 87, 88, 89, 90, 91, 92, 93, 94, 95, 96, 97, 98] (by decide +kernel) (by decide +kernel)
set_option maxRecDepth 20000 in
theorem gX7_go_X7_musicThen : GoodIn wsX7_go (wsV RX7 189 RX7 yX7_musicThen wsX7_musicThen) := goodIn_app (goodIn_of _ (by decide +kernel)) ggX7_go_X7_musicThen
set_option maxRecDepth 20000 in
theorem ggX7_go_X7_voiceThen : GoodIn wsX7_go wsX7_voiceThen := goodIn_r _ [36, 24, 37, 3, 38, 39, 40, 41, 8, 42, 1, 11, 12, 13, 14, 15, 16, 17, 18, 19, 20, 21, 22, 23, 25, 26, 27, 28, 29, 30, 31, 32, 4, 43, 44, 45, 46, 47, 48, 49, 50, 51, 52, 53, 54, 55, 56, 57, 58, 59, 60, 61, 62, 63, 64, 65, 66, 67, 68, 69, 70, 71, 72, 73, 74, 75, 76, 77, 78, 79, 80, 81, 82, 83, 84, 85, 86, 87, 88, 89, 90, 91, 92, 93, 94, 95, 96, 97, 98] (by decide +kernel) (by decide +kernel)
set_option maxRecDepth 20000 in
theorem gX7_go_X7_voiceThen : GoodIn wsX7_go (wsV RX7 192 RX7 yX7_voiceThen wsX7_voiceThen) := goodIn_app (goodIn_of _ (by decide +kernel)) ggX7_go_X7_voiceThen
theorem dX7_go_0 : decode cX7_go 0 = .ok (.iconst 0, 1) := by decide +kernel
theorem dX7_go_1 : decode cX7_go 1 = .ok (.istore_n 1, 1) := by decide +kernel
theorem dX7_go_2 : decode cX7_go 2 = .ok (.aload_n 0, 1) := by decide +kernel
theorem dX7_go_3 : decode cX7_go 3 = .ok (.invokevirtual 189, 3) := by decide +kernel
theorem dX7_go_6 : decode cX7_go 6 = .ok (.istore_n 2, 1) := by decide +kernel
theorem dX7_go_7 : decode cX7_go 7 = .ok (.iconst 0, 1) := by decide +kernel
theorem dX7_go_8 : decode cX7_go 8 = .ok (.istore_n 3, 1) := by decide +kernel
theorem dX7_go_9 : decode cX7_go 9 = .ok (.iload_n 3, 1) := by decide +kernel
theorem dX7_go_10 : decode cX7_go 10 = .ok (.aload_n 0, 1) := by decide +kernel
theorem dX7_go_11 : decode cX7_go 11 = .ok (.getfield 141, 3) := by decide +kernel
theorem dX7_go_14 : decode cX7_go 14 = .ok (.if_icmp .ge 20, 3) := by decide +kernel
theorem dX7_go_17 : decode cX7_go 17 = .ok (.aload_n 0, 1) := by decide +kernel
theorem dX7_go_18 : decode cX7_go 18 = .ok (.getfield 59, 3) := by decide +kernel
theorem dX7_go_21 : decode cX7_go 21 = .ok (.iload_n 3, 1) := by decide +kernel
theorem dX7_go_22 : decode cX7_go 22 = .ok (.aload_n 0, 1) := by decide +kernel
theorem dX7_go_23 : decode cX7_go 23 = .ok (.iload_n 3, 1) := by decide +kernel
theorem dX7_go_24 : decode cX7_go 24 = .ok (.invokevirtual 192, 3) := by decide +kernel
theorem dX7_go_27 : decode cX7_go 27 = .ok (.iastore, 1) := by decide +kernel
theorem dX7_go_28 : decode cX7_go 28 = .ok (.iinc 3 1, 3) := by decide +kernel
theorem dX7_go_31 : decode cX7_go 31 = .ok (.goto (-22), 3) := by decide +kernel
theorem dX7_go_34 : decode cX7_go 34 = .ok (.iconst 0, 1) := by decide +kernel
theorem dX7_go_35 : decode cX7_go 35 = .ok (.istore_n 3, 1) := by decide +kernel
theorem dX7_go_36 : decode cX7_go 36 = .ok (.iload_n 3, 1) := by decide +kernel
theorem dX7_go_37 : decode cX7_go 37 = .ok (.aload_n 0, 1) := by decide +kernel
theorem dX7_go_38 : decode cX7_go 38 = .ok (.getfield 141, 3) := by decide +kernel
theorem dX7_go_41 : decode cX7_go 41 = .ok (.if_icmp .ge 44, 3) := by decide +kernel
theorem dX7_go_44 : decode cX7_go 44 = .ok (.iload_n 1, 1) := by decide +kernel
theorem dX7_go_45 : decode cX7_go 45 = .ok (.aload_n 0, 1) := by decide +kernel
theorem dX7_go_46 : decode cX7_go 46 = .ok (.getfield 59, 3) := by decide +kernel
theorem dX7_go_49 : decode cX7_go 49 = .ok (.iload_n 3, 1) := by decide +kernel
theorem dX7_go_50 : decode cX7_go 50 = .ok (.iaload, 1) := by decide +kernel
theorem dX7_go_51 : decode cX7_go 51 = .ok (.aload_n 0, 1) := by decide +kernel
theorem dX7_go_52 : decode cX7_go 52 = .ok (.getfield 56, 3) := by decide +kernel
theorem dX7_go_55 : decode cX7_go 55 = .ok (.iload_n 3, 1) := by decide +kernel
theorem dX7_go_56 : decode cX7_go 56 = .ok (.iaload, 1) := by decide +kernel
theorem dX7_go_57 : decode cX7_go 57 = .ok (.if_icmp .ne 7, 3) := by decide +kernel
theorem dX7_go_60 : decode cX7_go 60 = .ok (.iconst 0, 1) := by decide +kernel
theorem dX7_go_61 : decode cX7_go 61 = .ok (.goto 4, 3) := by decide +kernel
theorem dX7_go_64 : decode cX7_go 64 = .ok (.iconst 1, 1) := by decide +kernel
theorem dX7_go_65 : decode cX7_go 65 = .ok (.iadd, 1) := by decide +kernel
theorem dX7_go_66 : decode cX7_go 66 = .ok (.istore_n 1, 1) := by decide +kernel
theorem dX7_go_67 : decode cX7_go 67 = .ok (.aload_n 0, 1) := by decide +kernel
theorem dX7_go_68 : decode cX7_go 68 = .ok (.getfield 56, 3) := by decide +kernel
theorem dX7_go_71 : decode cX7_go 71 = .ok (.iload_n 3, 1) := by decide +kernel
theorem dX7_go_72 : decode cX7_go 72 = .ok (.aload_n 0, 1) := by decide +kernel
theorem dX7_go_73 : decode cX7_go 73 = .ok (.getfield 59, 3) := by decide +kernel
theorem dX7_go_76 : decode cX7_go 76 = .ok (.iload_n 3, 1) := by decide +kernel
theorem dX7_go_77 : decode cX7_go 77 = .ok (.iaload, 1) := by decide +kernel
theorem dX7_go_78 : decode cX7_go 78 = .ok (.iastore, 1) := by decide +kernel
theorem dX7_go_79 : decode cX7_go 79 = .ok (.iinc 3 1, 3) := by decide +kernel
theorem dX7_go_82 : decode cX7_go 82 = .ok (.goto (-46), 3) := by decide +kernel
theorem dX7_go_85 : decode cX7_go 85 = .ok (.iload_n 1, 1) := by decide +kernel
theorem dX7_go_86 : decode cX7_go 86 = .ok (.ifCond .ne 15, 3) := by decide +kernel
theorem dX7_go_89 : decode cX7_go 89 = .ok (.iload_n 2, 1) := by decide +kernel
theorem dX7_go_90 : decode cX7_go 90 = .ok (.aload_n 0, 1) := by decide +kernel
theorem dX7_go_91 : decode cX7_go 91 = .ok (.getfield 138, 3) := by decide +kernel
theorem dX7_go_94 : decode cX7_go 94 = .ok (.if_icmp .eq 7, 3) := by decide +kernel
theorem dX7_go_97 : decode cX7_go 97 = .ok (.iconst 1, 1) := by decide +kernel
theorem dX7_go_98 : decode cX7_go 98 = .ok (.goto 4, 3) := by decide +kernel
theorem dX7_go_101 : decode cX7_go 101 = .ok (.iconst 0, 1) := by decide +kernel
theorem dX7_go_102 : decode cX7_go 102 = .ok (.istore_n 3, 1) := by decide +kernel
theorem dX7_go_103 : decode cX7_go 103 = .ok (.aload_n 0, 1) := by decide +kernel
theorem dX7_go_104 : decode cX7_go 104 = .ok (.iload_n 2, 1) := by decide +kernel
theorem dX7_go_105 : decode cX7_go 105 = .ok (.putfield 138, 3) := by decide +kernel
theorem dX7_go_108 : decode cX7_go 108 = .ok (.iload_n 3, 1) := by decide +kernel
theorem dX7_go_109 : decode cX7_go 109 = .ok (.ifCond .eq 7, 3) := by decide +kernel
theorem dX7_go_112 : decode cX7_go 112 = .ok (.iconst (-1), 1) := by decide +kernel
theorem dX7_go_113 : decode cX7_go 113 = .ok (.goto 4, 3) := by decide +kernel
theorem dX7_go_116 : decode cX7_go 116 = .ok (.iload_n 1, 1) := by decide +kernel
theorem dX7_go_117 : decode cX7_go 117 = .ok (.ireturn, 1) := by decide +kernel
set_option maxRecDepth 20000 in
theorem ggX7_about_X7_begin : GoodIn wsX7_about wsX7_begin := goodIn_r _ [14, 2, 15, 16, 5, 17, 18, 4, 19, 20, 21, 22, 68, 69, 70, 71, 72, 73, 74, 75, 76, 77, 78, 79, 80, 81, 82, 83, 84, 85, 86, 87, 88, 89, 90, 91, 92, 93, 94, 95, 96, 97, 98, 99, 100, 101, 102, 103, 104, 105, 106, 107] (by decide +kernel) (by decide +kernel)
set_option maxRecDepth 20000 in
theorem gX7_about_X7_begin : GoodIn wsX7_about (wsV RX7 195 RX7 yX7_begin wsX7_begin) := goodIn_app (goodIn_of _ (by decide +kernel)) ggX7_about_X7_begin
set_option maxRecDepth 20000 in
theorem ggX7_about_X7_hears : GoodIn wsX7_about wsX7_hears := goodIn_r _ [26, 27, 28, 29, 30, 13, 31, 3, 20, 15, 32, 33, 34, 35, 36, 37, 38, 39, 40, 41, 42, 43, 18, 44, 45, 46, 47, 19, 48, 49, 50, 51, 52, 53, 54, 55, 17, 56, 57, 58, 59, 60, 61, 62, 63, 64, 65, 66, 67, 68, 69, 70, 71, 72, 73, 74, 75, 76, 77, 78, 79, 80, 81, 82, 83, 84, 85, 86, 87, 88, 89, 90, 91, 92, 93, 94, 95, 96, 97, 98, 99, 100, 101, 102, 103, 104, 105, 106, 107] (by decide +kernel) (by decide +kernel)
set_option maxRecDepth 20000 in
theorem gX7_about_X7_hears : GoodIn wsX7_about (wsV RX7 186 RX7 yX7_hears wsX7_hears) := goodIn_app (goodIn_of _ (by decide +kernel)) ggX7_about_X7_hears
set_option maxRecDepth 20000 in
theorem ggX7_about_X7_echo : GoodIn wsX7_about wsX7_echo := goodIn_r _ [47, 19, 48, 49, 50, 13, 51, 18, 28, 29, 30, 31, 3, 20, 15, 32, 33, 34, 52, 53, 54, 55, 17, 68, 69, 70, 71, 72, 73, 74, 75, 76, 77, 78, 79, 80, 81, 82, 83, 84, 85, 86, 87, 88, 89, 90, 91, 92, 93, 94, 95, 96, 97, 98, 99, 100, 101, 102, 103, 104, 105, 106, 107] (by decide +kernel) (by decide +kernel)
set_option maxRecDepth 20000 in
theorem gX7_about_X7_echo : GoodIn wsX7_about (wsV RX7 170 RX7 yX7_echo wsX7_echo) := goodIn_app (goodIn_of _ (by decide +kernel)) ggX7_about_X7_echo
set_option maxRecDepth 20000 in
theorem ggX7_about_X7_loudAll : GoodIn wsX7_about wsX7_loudAll := goodIn_r _ [51, 18, 28, 29, 30, 13, 31, 3, 20, 15, 32, 33, 34, 68, 69, 70, 71, 72, 73, 74, 75, 76, 77, 78, 79, 80, 81, 82, 83, 84, 85, 86, 87, 88, 89, 90, 91, 92, 93, 94, 95, 96, 97, 98, 99, 100, 101, 102, 103, 104, 105, 106, 107] (by decide +kernel) (by decide +kernel)
set_option maxRecDepth 20000 in
theorem gX7_about_X7_loudAll : GoodIn wsX7_about (wsV RX7 161 RX7 yX7_loudAll wsX7_loudAll) := goodIn_app (goodIn_of _ (by decide +kernel)) ggX7_about_X7_loudAll
theorem dX7_about_0 : decode cX7_about 0 = .ok (.aload_n 0, 1) := by decide +kernel
theorem dX7_about_1 : decode cX7_about 1 = .ok (.iconst 0, 1) := by decide +kernel
theorem dX7_about_2 : decode cX7_about 2 = .ok (.putfield 71, 3) := by decide +kernel
theorem dX7_about_5 : decode cX7_about 5 = .ok (.aload_n 0, 1) := by decide +kernel
theorem dX7_about_6 : decode cX7_about 6 = .ok (.invokevirtual 195, 3) := by decide +kernel
theorem dX7_about_9 : decode cX7_about 9 = .ok (.iconst 0, 1) := by decide +kernel
theorem dX7_about_10 : decode cX7_about 10 = .ok (.istore_n 2, 1) := by decide +kernel
theorem dX7_about_11 : decode cX7_about 11 = .ok (.iconst 0, 1) := by decide +kernel
theorem dX7_about_12 : decode cX7_about 12 = .ok (.istore_n 3, 1) := by decide +kernel
theorem dX7_about_13 : decode cX7_about 13 = .ok (.iconst 0, 1) := by decide +kernel
theorem dX7_about_14 : decode cX7_about 14 = .ok (.istore 4, 2) := by decide +kernel
theorem dX7_about_16 : decode cX7_about 16 = .ok (.iload 4, 2) := by decide +kernel
theorem dX7_about_18 : decode cX7_about 18 = .ok (.aload_n 0, 1) := by decide +kernel
theorem dX7_about_19 : decode cX7_about 19 = .ok (.getfield 75, 3) := by decide +kernel
theorem dX7_about_22 : decode cX7_about 22 = .ok (.if_icmp .ge 39, 3) := by decide +kernel
theorem dX7_about_25 : decode cX7_about 25 = .ok (.iload_n 2, 1) := by decide +kernel
theorem dX7_about_26 : decode cX7_about 26 = .ok (.aload_n 0, 1) := by decide +kernel
theorem dX7_about_27 : decode cX7_about 27 = .ok (.getfield 19, 3) := by decide +kernel
theorem dX7_about_30 : decode cX7_about 30 = .ok (.iload 4, 2) := by decide +kernel
theorem dX7_about_32 : decode cX7_about 32 = .ok (.iaload, 1) := by decide +kernel
theorem dX7_about_33 : decode cX7_about 33 = .ok (.iadd, 1) := by decide +kernel
theorem dX7_about_34 : decode cX7_about 34 = .ok (.istore_n 2, 1) := by decide +kernel
theorem dX7_about_35 : decode cX7_about 35 = .ok (.iload_n 3, 1) := by decide +kernel
theorem dX7_about_36 : decode cX7_about 36 = .ok (.aload_n 0, 1) := by decide +kernel
theorem dX7_about_37 : decode cX7_about 37 = .ok (.iload 4, 2) := by decide +kernel
theorem dX7_about_39 : decode cX7_about 39 = .ok (.invokevirtual 186, 3) := by decide +kernel
theorem dX7_about_42 : decode cX7_about 42 = .ok (.ifCond .eq 10, 3) := by decide +kernel
theorem dX7_about_45 : decode cX7_about 45 = .ok (.iconst 1, 1) := by decide +kernel
theorem dX7_about_46 : decode cX7_about 46 = .ok (.iload 4, 2) := by decide +kernel
theorem dX7_about_48 : decode cX7_about 48 = .ok (.ishl, 1) := by decide +kernel
theorem dX7_about_49 : decode cX7_about 49 = .ok (.goto 4, 3) := by decide +kernel
theorem dX7_about_52 : decode cX7_about 52 = .ok (.iconst 0, 1) := by decide +kernel
theorem dX7_about_53 : decode cX7_about 53 = .ok (.ior, 1) := by decide +kernel
theorem dX7_about_54 : decode cX7_about 54 = .ok (.istore_n 3, 1) := by decide +kernel
theorem dX7_about_55 : decode cX7_about 55 = .ok (.iinc 4 1, 3) := by decide +kernel
theorem dX7_about_58 : decode cX7_about 58 = .ok (.goto (-42), 3) := by decide +kernel
theorem dX7_about_61 : decode cX7_about 61 = .ok (.iload_n 1, 1) := by decide +kernel
theorem dX7_about_62 : decode cX7_about 62 = .ok (.tableswitch 107 0 10 #[58, 63, 65, 70, 75, 80, 85, 87, 92, 97, 102], 58) := by decide +kernel
theorem dX7_about_120 : decode cX7_about 120 = .ok (.aload_n 0, 1) := by decide +kernel
theorem dX7_about_121 : decode cX7_about 121 = .ok (.getfield 75, 3) := by decide +kernel
theorem dX7_about_124 : decode cX7_about 124 = .ok (.ireturn, 1) := by decide +kernel
theorem dX7_about_125 : decode cX7_about 125 = .ok (.iload_n 2, 1) := by decide +kernel
theorem dX7_about_126 : decode cX7_about 126 = .ok (.ireturn, 1) := by decide +kernel
theorem dX7_about_127 : decode cX7_about 127 = .ok (.aload_n 0, 1) := by decide +kernel
theorem dX7_about_128 : decode cX7_about 128 = .ok (.getfield 125, 3) := by decide +kernel
theorem dX7_about_131 : decode cX7_about 131 = .ok (.ireturn, 1) := by decide +kernel
theorem dX7_about_132 : decode cX7_about 132 = .ok (.aload_n 0, 1) := by decide +kernel
theorem dX7_about_133 : decode cX7_about 133 = .ok (.getfield 128, 3) := by decide +kernel
theorem dX7_about_136 : decode cX7_about 136 = .ok (.ireturn, 1) := by decide +kernel
theorem dX7_about_137 : decode cX7_about 137 = .ok (.aload_n 0, 1) := by decide +kernel
theorem dX7_about_138 : decode cX7_about 138 = .ok (.invokevirtual 170, 3) := by decide +kernel
theorem dX7_about_141 : decode cX7_about 141 = .ok (.ireturn, 1) := by decide +kernel
theorem dX7_about_142 : decode cX7_about 142 = .ok (.aload_n 0, 1) := by decide +kernel
theorem dX7_about_143 : decode cX7_about 143 = .ok (.invokevirtual 161, 3) := by decide +kernel
theorem dX7_about_146 : decode cX7_about 146 = .ok (.ireturn, 1) := by decide +kernel
theorem dX7_about_147 : decode cX7_about 147 = .ok (.iload_n 3, 1) := by decide +kernel
theorem dX7_about_148 : decode cX7_about 148 = .ok (.ireturn, 1) := by decide +kernel
theorem dX7_about_149 : decode cX7_about 149 = .ok (.aload_n 0, 1) := by decide +kernel
theorem dX7_about_150 : decode cX7_about 150 = .ok (.getfield 122, 3) := by decide +kernel
theorem dX7_about_153 : decode cX7_about 153 = .ok (.ireturn, 1) := by decide +kernel
theorem dX7_about_154 : decode cX7_about 154 = .ok (.aload_n 0, 1) := by decide +kernel
theorem dX7_about_155 : decode cX7_about 155 = .ok (.getfield 135, 3) := by decide +kernel
theorem dX7_about_158 : decode cX7_about 158 = .ok (.ireturn, 1) := by decide +kernel
theorem dX7_about_159 : decode cX7_about 159 = .ok (.aload_n 0, 1) := by decide +kernel
theorem dX7_about_160 : decode cX7_about 160 = .ok (.getfield 198, 3) := by decide +kernel
theorem dX7_about_163 : decode cX7_about 163 = .ok (.ireturn, 1) := by decide +kernel
theorem dX7_about_164 : decode cX7_about 164 = .ok (.aload_n 0, 1) := by decide +kernel
theorem dX7_about_165 : decode cX7_about 165 = .ok (.getfield 84, 3) := by decide +kernel
theorem dX7_about_168 : decode cX7_about 168 = .ok (.ireturn, 1) := by decide +kernel
theorem dX7_about_169 : decode cX7_about 169 = .ok (.bipush (-2), 2) := by decide +kernel
theorem dX7_about_171 : decode cX7_about 171 = .ok (.ireturn, 1) := by decide +kernel
set_option maxRecDepth 20000 in
theorem ggX7_ring_X7_noRing : GoodIn wsX7_ring wsX7_noRing := goodIn_r _ [11, 12, 13, 14, 10, 15, 71, 72, 73, 74, 75, 76, 77, 78, 79, 80, 81, 82, 83, 84, 85, 86, 87, 88, 89, 90, 91, 92, 93, 94, 95, 96, 97, 98, 99, 100, 101, 102, 103, 104, 105, 106, 107, 108, 109, 110] (by decide +kernel) (by decide +kernel)
set_option maxRecDepth 20000 in
theorem gX7_ring_X7_noRing : GoodIn wsX7_ring (wsV RX7 201 RX7 yX7_noRing wsX7_noRing) := goodIn_app (goodIn_of _ (by decide +kernel)) ggX7_ring_X7_noRing
set_option maxRecDepth 20000 in
theorem ggX7_ring_X7_begin : GoodIn wsX7_ring wsX7_begin := goodIn_r _ [19, 12, 20, 5, 21, 22, 23, 24, 25, 26, 27, 28, 71, 72, 73, 74, 75, 76, 77, 78, 79, 80, 81, 82, 83, 84, 85, 86, 87, 88, 89, 90, 91, 92, 93, 94, 95, 96, 97, 98, 99, 100, 101, 102, 103, 104, 105, 106, 107, 108, 109, 110] (by decide +kernel) (by decide +kernel)
set_option maxRecDepth 20000 in
theorem gX7_ring_X7_begin : GoodIn wsX7_ring (wsV RX7 195 RX7 yX7_begin wsX7_begin) := goodIn_app (goodIn_of _ (by decide +kernel)) ggX7_ring_X7_begin
set_option maxRecDepth 20000 in
theorem ggX7_ring_X7_loudOf : GoodIn wsX7_ring wsX7_loudOf := goodIn_r _ [32, 4, 26, 20, 33, 34, 10, 35, 71, 72, 73, 74, 75, 76, 77, 78, 79, 80, 81, 82, 83, 84, 85, 86, 87, 88, 89, 90, 91, 92, 93, 94, 95, 96, 97, 98, 99, 100, 101, 102, 103, 104, 105, 106, 107, 108, 109, 110] (by decide +kernel) (by decide +kernel)
set_option maxRecDepth 20000 in
theorem gX7_ring_X7_loudOf : GoodIn wsX7_ring (wsV RX7 157 RX7 yX7_loudOf wsX7_loudOf) := goodIn_app (goodIn_of _ (by decide +kernel)) ggX7_ring_X7_loudOf
set_option maxRecDepth 20000 in
theorem ggX7_ring_X7_soundOf : GoodIn wsX7_ring wsX7_soundOf := goodIn_r _ [39, 4, 2, 71, 72, 73, 74, 75, 76, 77, 78, 79, 80, 81, 82, 83, 84, 85, 86, 87, 88, 89, 90, 91, 92, 93, 94, 95, 96, 97, 98, 99, 100, 101, 102, 103, 104, 105, 106, 107, 108, 109, 110] (by decide +kernel) (by decide +kernel)
set_option maxRecDepth 20000 in
theorem gX7_ring_X7_soundOf : GoodIn wsX7_ring (wsV RX7 176 RX7 yX7_soundOf wsX7_soundOf) := goodIn_app (goodIn_of _ (by decide +kernel)) ggX7_ring_X7_soundOf
set_option maxRecDepth 20000 in
theorem ggX7_ring_X7_noiseAt : GoodIn wsX7_ring wsX7_noiseAt := goodIn_r _ [43, 23, 44, 45, 46, 10, 47, 25, 48, 49, 50, 51, 29, 30, 31, 32, 4, 26, 20, 33, 34, 35, 52, 53, 54, 55, 22, 56, 57, 58, 59, 3, 60, 61, 62, 71, 72, 73, 74, 75, 76, 77, 78, 79, 80, 81, 82, 83, 84, 85, 86, 87, 88, 89, 90, 91, 92, 93, 94, 95, 96, 97, 98, 99, 100, 101, 102, 103, 104, 105, 106, 107, 108, 109, 110] (by decide +kernel) (by decide +kernel)
set_option maxRecDepth 20000 in
theorem gX7_ring_X7_noiseAt : GoodIn wsX7_ring (wsV RX7 179 RX7 yX7_noiseAt wsX7_noiseAt) := goodIn_app (goodIn_of _ (by decide +kernel)) ggX7_ring_X7_noiseAt
set_option maxRecDepth 20000 in
theorem ggX7_ring_X7_hears : GoodIn wsX7_ring wsX7_hears := goodIn_r _ [66, 3, 29, 30, 31, 10, 32, 4, 26, 20, 33, 34, 35, 36, 37, 38, 39, 2, 40, 41, 42, 43, 23, 44, 45, 46, 47, 25, 48, 49, 50, 51, 52, 53, 54, 55, 22, 56, 57, 58, 59, 60, 61, 62, 67, 68, 69, 70, 6, 71, 72, 73, 74, 75, 76, 77, 78, 79, 80, 81, 82, 83, 84, 85, 86, 87, 88, 89, 90, 91, 92, 93, 94, 95, 96, 97, 98, 99, 100, 101, 102, 103, 104, 105, 106, 107, 108, 109, 110] (by decide +kernel) (by decide +kernel)
set_option maxRecDepth 20000 in
theorem gX7_ring_X7_hears : GoodIn wsX7_ring (wsV RX7 186 RX7 yX7_hears wsX7_hears) := goodIn_app (goodIn_of _ (by decide +kernel)) ggX7_ring_X7_hears
theorem dX7_ring_0 : decode cX7_ring 0 = .ok (.aload_n 0, 1) := by decide +kernel
theorem dX7_ring_1 : decode cX7_ring 1 = .ok (.iconst 0, 1) := by decide +kernel
theorem dX7_ring_2 : decode cX7_ring 2 = .ok (.putfield 71, 3) := by decide +kernel
theorem dX7_ring_5 : decode cX7_ring 5 = .ok (.aload_n 0, 1) := by decide +kernel
theorem dX7_ring_6 : decode cX7_ring 6 = .ok (.iload_n 1, 1) := by decide +kernel
theorem dX7_ring_7 : decode cX7_ring 7 = .ok (.invokevirtual 201, 3) := by decide +kernel
theorem dX7_ring_10 : decode cX7_ring 10 = .ok (.ifCond .eq 5, 3) := by decide +kernel
theorem dX7_ring_13 : decode cX7_ring 13 = .ok (.iconst (-1), 1) := by decide +kernel
theorem dX7_ring_14 : decode cX7_ring 14 = .ok (.ireturn, 1) := by decide +kernel
theorem dX7_ring_15 : decode cX7_ring 15 = .ok (.aload_n 0, 1) := by decide +kernel
theorem dX7_ring_16 : decode cX7_ring 16 = .ok (.invokevirtual 195, 3) := by decide +kernel
theorem dX7_ring_19 : decode cX7_ring 19 = .ok (.iload_n 2, 1) := by decide +kernel
theorem dX7_ring_20 : decode cX7_ring 20 = .ok (.tableswitch 129 0 8 #[52, 59, 66, 73, 80, 87, 93, 104, 115], 52) := by decide +kernel
theorem dX7_ring_72 : decode cX7_ring 72 = .ok (.aload_n 0, 1) := by decide +kernel
theorem dX7_ring_73 : decode cX7_ring 73 = .ok (.getfield 13, 3) := by decide +kernel
theorem dX7_ring_76 : decode cX7_ring 76 = .ok (.iload_n 1, 1) := by decide +kernel
theorem dX7_ring_77 : decode cX7_ring 77 = .ok (.iaload, 1) := by decide +kernel
theorem dX7_ring_78 : decode cX7_ring 78 = .ok (.ireturn, 1) := by decide +kernel
theorem dX7_ring_79 : decode cX7_ring 79 = .ok (.aload_n 0, 1) := by decide +kernel
theorem dX7_ring_80 : decode cX7_ring 80 = .ok (.getfield 16, 3) := by decide +kernel
theorem dX7_ring_83 : decode cX7_ring 83 = .ok (.iload_n 1, 1) := by decide +kernel
theorem dX7_ring_84 : decode cX7_ring 84 = .ok (.iaload, 1) := by decide +kernel
theorem dX7_ring_85 : decode cX7_ring 85 = .ok (.ireturn, 1) := by decide +kernel
theorem dX7_ring_86 : decode cX7_ring 86 = .ok (.aload_n 0, 1) := by decide +kernel
theorem dX7_ring_87 : decode cX7_ring 87 = .ok (.getfield 19, 3) := by decide +kernel
theorem dX7_ring_90 : decode cX7_ring 90 = .ok (.iload_n 1, 1) := by decide +kernel
theorem dX7_ring_91 : decode cX7_ring 91 = .ok (.iaload, 1) := by decide +kernel
theorem dX7_ring_92 : decode cX7_ring 92 = .ok (.ireturn, 1) := by decide +kernel
theorem dX7_ring_93 : decode cX7_ring 93 = .ok (.aload_n 0, 1) := by decide +kernel
theorem dX7_ring_94 : decode cX7_ring 94 = .ok (.getfield 22, 3) := by decide +kernel
theorem dX7_ring_97 : decode cX7_ring 97 = .ok (.iload_n 1, 1) := by decide +kernel
theorem dX7_ring_98 : decode cX7_ring 98 = .ok (.iaload, 1) := by decide +kernel
theorem dX7_ring_99 : decode cX7_ring 99 = .ok (.ireturn, 1) := by decide +kernel
theorem dX7_ring_100 : decode cX7_ring 100 = .ok (.aload_n 0, 1) := by decide +kernel
theorem dX7_ring_101 : decode cX7_ring 101 = .ok (.getfield 25, 3) := by decide +kernel
theorem dX7_ring_104 : decode cX7_ring 104 = .ok (.iload_n 1, 1) := by decide +kernel
theorem dX7_ring_105 : decode cX7_ring 105 = .ok (.iaload, 1) := by decide +kernel
theorem dX7_ring_106 : decode cX7_ring 106 = .ok (.ireturn, 1) := by decide +kernel
theorem dX7_ring_107 : decode cX7_ring 107 = .ok (.aload_n 0, 1) := by decide +kernel
theorem dX7_ring_108 : decode cX7_ring 108 = .ok (.iload_n 1, 1) := by decide +kernel
theorem dX7_ring_109 : decode cX7_ring 109 = .ok (.invokevirtual 157, 3) := by decide +kernel
theorem dX7_ring_112 : decode cX7_ring 112 = .ok (.ireturn, 1) := by decide +kernel
theorem dX7_ring_113 : decode cX7_ring 113 = .ok (.aload_n 0, 1) := by decide +kernel
theorem dX7_ring_114 : decode cX7_ring 114 = .ok (.iload_n 1, 1) := by decide +kernel
theorem dX7_ring_115 : decode cX7_ring 115 = .ok (.aload_n 0, 1) := by decide +kernel
theorem dX7_ring_116 : decode cX7_ring 116 = .ok (.iload_n 1, 1) := by decide +kernel
theorem dX7_ring_117 : decode cX7_ring 117 = .ok (.invokevirtual 157, 3) := by decide +kernel
theorem dX7_ring_120 : decode cX7_ring 120 = .ok (.invokevirtual 176, 3) := by decide +kernel
theorem dX7_ring_123 : decode cX7_ring 123 = .ok (.ireturn, 1) := by decide +kernel
theorem dX7_ring_124 : decode cX7_ring 124 = .ok (.aload_n 0, 1) := by decide +kernel
theorem dX7_ring_125 : decode cX7_ring 125 = .ok (.aload_n 0, 1) := by decide +kernel
theorem dX7_ring_126 : decode cX7_ring 126 = .ok (.getfield 16, 3) := by decide +kernel
theorem dX7_ring_129 : decode cX7_ring 129 = .ok (.iload_n 1, 1) := by decide +kernel
theorem dX7_ring_130 : decode cX7_ring 130 = .ok (.iaload, 1) := by decide +kernel
theorem dX7_ring_131 : decode cX7_ring 131 = .ok (.invokevirtual 179, 3) := by decide +kernel
theorem dX7_ring_134 : decode cX7_ring 134 = .ok (.ireturn, 1) := by decide +kernel
theorem dX7_ring_135 : decode cX7_ring 135 = .ok (.aload_n 0, 1) := by decide +kernel
theorem dX7_ring_136 : decode cX7_ring 136 = .ok (.iload_n 1, 1) := by decide +kernel
theorem dX7_ring_137 : decode cX7_ring 137 = .ok (.invokevirtual 186, 3) := by decide +kernel
theorem dX7_ring_140 : decode cX7_ring 140 = .ok (.ifCond .eq 7, 3) := by decide +kernel
theorem dX7_ring_143 : decode cX7_ring 143 = .ok (.iconst 1, 1) := by decide +kernel
theorem dX7_ring_144 : decode cX7_ring 144 = .ok (.goto 4, 3) := by decide +kernel
theorem dX7_ring_147 : decode cX7_ring 147 = .ok (.iconst 0, 1) := by decide +kernel
theorem dX7_ring_148 : decode cX7_ring 148 = .ok (.ireturn, 1) := by decide +kernel
theorem dX7_ring_149 : decode cX7_ring 149 = .ok (.bipush (-2), 2) := by decide +kernel
theorem dX7_ring_151 : decode cX7_ring 151 = .ok (.ireturn, 1) := by decide +kernel
set_option maxRecDepth 20000 in
theorem ggX7_stuff_X7_in : GoodIn wsX7_stuff wsX7_in := goodIn_r _ [8] (by decide +kernel) (by decide +kernel)
set_option maxRecDepth 20000 in
theorem gX7_stuff_X7_in : GoodIn wsX7_stuff (va_wsS RX7 78 yX7_in wsX7_in) := goodIn_app (goodIn_of _ (by decide +kernel)) ggX7_stuff_X7_in
theorem dX7_stuff_0 : decode cX7_stuff 0 = .ok (.aload_n 0, 1) := by decide +kernel
theorem dX7_stuff_1 : decode cX7_stuff 1 = .ok (.iconst 0, 1) := by decide +kernel
theorem dX7_stuff_2 : decode cX7_stuff 2 = .ok (.putfield 71, 3) := by decide +kernel
theorem dX7_stuff_5 : decode cX7_stuff 5 = .ok (.iload_n 1, 1) := by decide +kernel
theorem dX7_stuff_6 : decode cX7_stuff 6 = .ok (.i2l, 1) := by decide +kernel
theorem dX7_stuff_7 : decode cX7_stuff 7 = .ok (.lconst 0, 1) := by decide +kernel
theorem dX7_stuff_8 : decode cX7_stuff 8 = .ok (.aload_n 0, 1) := by decide +kernel
theorem dX7_stuff_9 : decode cX7_stuff 9 = .ok (.getfield 122, 3) := by decide +kernel
theorem dX7_stuff_12 : decode cX7_stuff 12 = .ok (.iconst 1, 1) := by decide +kernel
theorem dX7_stuff_13 : decode cX7_stuff 13 = .ok (.isub, 1) := by decide +kernel
theorem dX7_stuff_14 : decode cX7_stuff 14 = .ok (.i2l, 1) := by decide +kernel
theorem dX7_stuff_15 : decode cX7_stuff 15 = .ok (.invokestatic 78, 3) := by decide +kernel
theorem dX7_stuff_18 : decode cX7_stuff 18 = .ok (.ifCond .ne 5, 3) := by decide +kernel
theorem dX7_stuff_21 : decode cX7_stuff 21 = .ok (.iconst (-1), 1) := by decide +kernel
theorem dX7_stuff_22 : decode cX7_stuff 22 = .ok (.ireturn, 1) := by decide +kernel
theorem dX7_stuff_23 : decode cX7_stuff 23 = .ok (.iload_n 2, 1) := by decide +kernel
theorem dX7_stuff_24 : decode cX7_stuff 24 = .ok (.ifCond .ne 12, 3) := by decide +kernel
theorem dX7_stuff_27 : decode cX7_stuff 27 = .ok (.aload_n 0, 1) := by decide +kernel
theorem dX7_stuff_28 : decode cX7_stuff 28 = .ok (.getfield 28, 3) := by decide +kernel
theorem dX7_stuff_31 : decode cX7_stuff 31 = .ok (.iload_n 1, 1) := by decide +kernel
theorem dX7_stuff_32 : decode cX7_stuff 32 = .ok (.iaload, 1) := by decide +kernel
theorem dX7_stuff_33 : decode cX7_stuff 33 = .ok (.goto 19, 3) := by decide +kernel
theorem dX7_stuff_36 : decode cX7_stuff 36 = .ok (.iload_n 2, 1) := by decide +kernel
theorem dX7_stuff_37 : decode cX7_stuff 37 = .ok (.iconst 1, 1) := by decide +kernel
theorem dX7_stuff_38 : decode cX7_stuff 38 = .ok (.if_icmp .ne 12, 3) := by decide +kernel
theorem dX7_stuff_41 : decode cX7_stuff 41 = .ok (.aload_n 0, 1) := by decide +kernel
theorem dX7_stuff_42 : decode cX7_stuff 42 = .ok (.getfield 31, 3) := by decide +kernel
theorem dX7_stuff_45 : decode cX7_stuff 45 = .ok (.iload_n 1, 1) := by decide +kernel
theorem dX7_stuff_46 : decode cX7_stuff 46 = .ok (.iaload, 1) := by decide +kernel
theorem dX7_stuff_47 : decode cX7_stuff 47 = .ok (.goto 5, 3) := by decide +kernel
theorem dX7_stuff_50 : decode cX7_stuff 50 = .ok (.bipush (-2), 2) := by decide +kernel
theorem dX7_stuff_52 : decode cX7_stuff 52 = .ok (.ireturn, 1) := by decide +kernel
set_option maxRecDepth 20000 in
theorem ggX7_noise_X7_in : GoodIn wsX7_noise wsX7_in := goodIn_r _ [6] (by decide +kernel) (by decide +kernel)
set_option maxRecDepth 20000 in
theorem gX7_noise_X7_in : GoodIn wsX7_noise (va_wsS RX7 78 yX7_in wsX7_in) := goodIn_app (goodIn_of _ (by decide +kernel)) ggX7_noise_X7_in
set_option maxRecDepth 20000 in
theorem ggX7_noise_X7_begin : GoodIn wsX7_noise wsX7_begin := goodIn_r _ [10, 11, 12, 13, 14, 15, 16, 17, 18, 19, 20, 21, 54, 55, 56, 57, 58, 59, 60, 61, 62, 63, 64, 65, 66, 67, 68, 69, 70, 71, 72, 73, 74, 75, 76, 77, 78, 79, 80, 81, 82, 83, 84, 85, 86, 87, 88, 89, 90, 91, 92, 93] (by decide +kernel) (by decide +kernel)
set_option maxRecDepth 20000 in
theorem gX7_noise_X7_begin : GoodIn wsX7_noise (wsV RX7 195 RX7 yX7_begin wsX7_begin) := goodIn_app (goodIn_of _ (by decide +kernel)) ggX7_noise_X7_begin
set_option maxRecDepth 20000 in
theorem ggX7_noise_X7_noiseAt : GoodIn wsX7_noise wsX7_noiseAt := goodIn_r _ [25, 16, 26, 27, 28, 5, 29, 18, 30, 31, 32, 33, 34, 35, 36, 37, 38, 19, 12, 39, 40, 41, 42, 43, 44, 45, 15, 46, 47, 48, 49, 50, 51, 52, 53, 54, 55, 56, 57, 58, 59, 60, 61, 62, 63, 64, 65, 66, 67, 68, 69, 70, 71, 72, 73, 74, 75, 76, 77, 78, 79, 80, 81, 82, 83, 84, 85, 86, 87, 88, 89, 90, 91, 92, 93] (by decide +kernel) (by decide +kernel)
set_option maxRecDepth 20000 in
theorem gX7_noise_X7_noiseAt : GoodIn wsX7_noise (wsV RX7 179 RX7 yX7_noiseAt wsX7_noiseAt) := goodIn_app (goodIn_of _ (by decide +kernel)) ggX7_noise_X7_noiseAt
theorem dX7_noise_0 : decode cX7_noise 0 = .ok (.aload_n 0, 1) := by decide +kernel
theorem dX7_noise_1 : decode cX7_noise 1 = .ok (.iconst 0, 1) := by decide +kernel
theorem dX7_noise_2 : decode cX7_noise 2 = .ok (.putfield 71, 3) := by decide +kernel
theorem dX7_noise_5 : decode cX7_noise 5 = .ok (.iload_n 1, 1) := by decide +kernel
theorem dX7_noise_6 : decode cX7_noise 6 = .ok (.i2l, 1) := by decide +kernel
theorem dX7_noise_7 : decode cX7_noise 7 = .ok (.lconst 0, 1) := by decide +kernel
theorem dX7_noise_8 : decode cX7_noise 8 = .ok (.ldc2_w 204, 3) := by decide +kernel
theorem dX7_noise_11 : decode cX7_noise 11 = .ok (.invokestatic 78, 3) := by decide +kernel
theorem dX7_noise_14 : decode cX7_noise 14 = .ok (.ifCond .eq 15, 3) := by decide +kernel
theorem dX7_noise_17 : decode cX7_noise 17 = .ok (.iload_n 2, 1) := by decide +kernel
theorem dX7_noise_18 : decode cX7_noise 18 = .ok (.i2l, 1) := by decide +kernel
theorem dX7_noise_19 : decode cX7_noise 19 = .ok (.lconst 0, 1) := by decide +kernel
theorem dX7_noise_20 : decode cX7_noise 20 = .ok (.ldc2_w 204, 3) := by decide +kernel
theorem dX7_noise_23 : decode cX7_noise 23 = .ok (.invokestatic 78, 3) := by decide +kernel
theorem dX7_noise_26 : decode cX7_noise 26 = .ok (.ifCond .ne 6, 3) := by decide +kernel
theorem dX7_noise_29 : decode cX7_noise 29 = .ok (.bipush (-2), 2) := by decide +kernel
theorem dX7_noise_31 : decode cX7_noise 31 = .ok (.ireturn, 1) := by decide +kernel
theorem dX7_noise_32 : decode cX7_noise 32 = .ok (.aload_n 0, 1) := by decide +kernel
theorem dX7_noise_33 : decode cX7_noise 33 = .ok (.invokevirtual 195, 3) := by decide +kernel
theorem dX7_noise_36 : decode cX7_noise 36 = .ok (.aload_n 0, 1) := by decide +kernel
theorem dX7_noise_37 : decode cX7_noise 37 = .ok (.bipush 10, 2) := by decide +kernel
theorem dX7_noise_39 : decode cX7_noise 39 = .ok (.iload_n 2, 1) := by decide +kernel
theorem dX7_noise_40 : decode cX7_noise 40 = .ok (.imul, 1) := by decide +kernel
theorem dX7_noise_41 : decode cX7_noise 41 = .ok (.iload_n 1, 1) := by decide +kernel
theorem dX7_noise_42 : decode cX7_noise 42 = .ok (.iadd, 1) := by decide +kernel
theorem dX7_noise_43 : decode cX7_noise 43 = .ok (.invokevirtual 179, 3) := by decide +kernel
theorem dX7_noise_46 : decode cX7_noise 46 = .ok (.ireturn, 1) := by decide +kernel
set_option maxRecDepth 20000 in
theorem ggX7_from_X7_noRing : GoodIn wsX7_from wsX7_noRing := goodIn_r _ [7, 8, 9, 10, 6, 11, 42, 43, 44, 45, 46, 47, 48, 49, 50, 51, 52, 53, 54, 55, 56, 57, 58, 59, 60, 61, 62, 63, 64, 65, 66, 67, 68, 69, 70, 71, 72, 73, 74, 75, 76, 77, 78, 79, 80, 81] (by decide +kernel) (by decide +kernel)
set_option maxRecDepth 20000 in
theorem gX7_from_X7_noRing : GoodIn wsX7_from (wsV RX7 201 RX7 yX7_noRing wsX7_noRing) := goodIn_app (goodIn_of _ (by decide +kernel)) ggX7_from_X7_noRing
set_option maxRecDepth 20000 in
theorem ggX7_from_X7_in : GoodIn wsX7_from wsX7_in := goodIn_r _ [11] (by decide +kernel) (by decide +kernel)
set_option maxRecDepth 20000 in
theorem gX7_from_X7_in : GoodIn wsX7_from (va_wsS RX7 78 yX7_in wsX7_in) := goodIn_app (goodIn_of _ (by decide +kernel)) ggX7_from_X7_in
set_option maxRecDepth 20000 in
theorem ggX7_from_X7_begin : GoodIn wsX7_from wsX7_begin := goodIn_r _ [15, 8, 16, 17, 18, 19, 20, 21, 22, 23, 24, 25, 42, 43, 44, 45, 46, 47, 48, 49, 50, 51, 52, 53, 54, 55, 56, 57, 58, 59, 60, 61, 62, 63, 64, 65, 66, 67, 68, 69, 70, 71, 72, 73, 74, 75, 76, 77, 78, 79, 80, 81] (by decide +kernel) (by decide +kernel)
set_option maxRecDepth 20000 in
theorem gX7_from_X7_begin : GoodIn wsX7_from (wsV RX7 195 RX7 yX7_begin wsX7_begin) := goodIn_app (goodIn_of _ (by decide +kernel)) ggX7_from_X7_begin
set_option maxRecDepth 20000 in
theorem ggX7_from_X7_fromAt : GoodIn wsX7_from wsX7_fromAt := goodIn_r _ [29, 30, 31, 32, 33, 6, 34, 35, 23, 16, 36, 37, 38, 39, 40, 41, 42, 43, 44, 45, 46, 47, 48, 49, 50, 51, 52, 53, 54, 55, 56, 57, 58, 59, 60, 61, 62, 63, 64, 65, 66, 67, 68, 69, 70, 71, 72, 73, 74, 75, 76, 77, 78, 79, 80, 81] (by decide +kernel) (by decide +kernel)
set_option maxRecDepth 20000 in
theorem gX7_from_X7_fromAt : GoodIn wsX7_from (wsV RX7 173 RX7 yX7_fromAt wsX7_fromAt) := goodIn_app (goodIn_of _ (by decide +kernel)) ggX7_from_X7_fromAt
theorem dX7_from_0 : decode cX7_from 0 = .ok (.aload_n 0, 1) := by decide +kernel
theorem dX7_from_1 : decode cX7_from 1 = .ok (.iconst 0, 1) := by decide +kernel
theorem dX7_from_2 : decode cX7_from 2 = .ok (.putfield 71, 3) := by decide +kernel
theorem dX7_from_5 : decode cX7_from 5 = .ok (.aload_n 0, 1) := by decide +kernel
theorem dX7_from_6 : decode cX7_from 6 = .ok (.iload_n 1, 1) := by decide +kernel
theorem dX7_from_7 : decode cX7_from 7 = .ok (.invokevirtual 201, 3) := by decide +kernel
theorem dX7_from_10 : decode cX7_from 10 = .ok (.ifCond .eq 5, 3) := by decide +kernel
theorem dX7_from_13 : decode cX7_from 13 = .ok (.iconst (-1), 1) := by decide +kernel
theorem dX7_from_14 : decode cX7_from 14 = .ok (.ireturn, 1) := by decide +kernel
theorem dX7_from_15 : decode cX7_from 15 = .ok (.iload_n 2, 1) := by decide +kernel
theorem dX7_from_16 : decode cX7_from 16 = .ok (.i2l, 1) := by decide +kernel
theorem dX7_from_17 : decode cX7_from 17 = .ok (.lconst 0, 1) := by decide +kernel
theorem dX7_from_18 : decode cX7_from 18 = .ok (.ldc2_w 204, 3) := by decide +kernel
theorem dX7_from_21 : decode cX7_from 21 = .ok (.invokestatic 78, 3) := by decide +kernel
theorem dX7_from_24 : decode cX7_from 24 = .ok (.ifCond .eq 15, 3) := by decide +kernel
theorem dX7_from_27 : decode cX7_from 27 = .ok (.iload_n 3, 1) := by decide +kernel
theorem dX7_from_28 : decode cX7_from 28 = .ok (.i2l, 1) := by decide +kernel
theorem dX7_from_29 : decode cX7_from 29 = .ok (.lconst 0, 1) := by decide +kernel
theorem dX7_from_30 : decode cX7_from 30 = .ok (.ldc2_w 204, 3) := by decide +kernel
theorem dX7_from_33 : decode cX7_from 33 = .ok (.invokestatic 78, 3) := by decide +kernel
theorem dX7_from_36 : decode cX7_from 36 = .ok (.ifCond .ne 6, 3) := by decide +kernel
theorem dX7_from_39 : decode cX7_from 39 = .ok (.bipush (-2), 2) := by decide +kernel
theorem dX7_from_41 : decode cX7_from 41 = .ok (.ireturn, 1) := by decide +kernel
theorem dX7_from_42 : decode cX7_from 42 = .ok (.aload_n 0, 1) := by decide +kernel
theorem dX7_from_43 : decode cX7_from 43 = .ok (.invokevirtual 195, 3) := by decide +kernel
theorem dX7_from_46 : decode cX7_from 46 = .ok (.aload_n 0, 1) := by decide +kernel
theorem dX7_from_47 : decode cX7_from 47 = .ok (.iload_n 1, 1) := by decide +kernel
theorem dX7_from_48 : decode cX7_from 48 = .ok (.bipush 10, 2) := by decide +kernel
theorem dX7_from_50 : decode cX7_from 50 = .ok (.iload_n 3, 1) := by decide +kernel
theorem dX7_from_51 : decode cX7_from 51 = .ok (.imul, 1) := by decide +kernel
theorem dX7_from_52 : decode cX7_from 52 = .ok (.iload_n 2, 1) := by decide +kernel
theorem dX7_from_53 : decode cX7_from 53 = .ok (.iadd, 1) := by decide +kernel
theorem dX7_from_54 : decode cX7_from 54 = .ok (.invokevirtual 173, 3) := by decide +kernel
theorem dX7_from_57 : decode cX7_from 57 = .ok (.ireturn, 1) := by decide +kernel
set_option maxRecDepth 20000 in
theorem ggX7_voice_X7_noRing : GoodIn wsX7_voice wsX7_noRing := goodIn_r _ [8, 9, 10, 11, 7, 12, 13, 14, 15, 16, 17, 18, 19, 20, 21, 22, 23, 24, 25, 26, 27, 28, 29, 30, 31, 32, 33, 34, 35, 36, 37, 38, 39, 40, 41, 42, 43, 44, 45, 46, 47, 48, 49, 50, 51, 52] (by decide +kernel) (by decide +kernel)
set_option maxRecDepth 20000 in
theorem gX7_voice_X7_noRing : GoodIn wsX7_voice (wsV RX7 201 RX7 yX7_noRing wsX7_noRing) := goodIn_app (goodIn_of _ (by decide +kernel)) ggX7_voice_X7_noRing
set_option maxRecDepth 20000 in
theorem ggX7_voice_X7_in : GoodIn wsX7_voice wsX7_in := goodIn_r _ [12] (by decide +kernel) (by decide +kernel)
set_option maxRecDepth 20000 in
theorem gX7_voice_X7_in : GoodIn wsX7_voice (va_wsS RX7 78 yX7_in wsX7_in) := goodIn_app (goodIn_of _ (by decide +kernel)) ggX7_voice_X7_in
theorem dX7_voice_0 : decode cX7_voice 0 = .ok (.aload_n 0, 1) := by decide +kernel
theorem dX7_voice_1 : decode cX7_voice 1 = .ok (.iconst 0, 1) := by decide +kernel
theorem dX7_voice_2 : decode cX7_voice 2 = .ok (.putfield 71, 3) := by decide +kernel
theorem dX7_voice_5 : decode cX7_voice 5 = .ok (.aload_n 0, 1) := by decide +kernel
theorem dX7_voice_6 : decode cX7_voice 6 = .ok (.iload_n 1, 1) := by decide +kernel
theorem dX7_voice_7 : decode cX7_voice 7 = .ok (.invokevirtual 201, 3) := by decide +kernel
theorem dX7_voice_10 : decode cX7_voice 10 = .ok (.ifCond .eq 5, 3) := by decide +kernel
theorem dX7_voice_13 : decode cX7_voice 13 = .ok (.iconst (-1), 1) := by decide +kernel
theorem dX7_voice_14 : decode cX7_voice 14 = .ok (.ireturn, 1) := by decide +kernel
theorem dX7_voice_15 : decode cX7_voice 15 = .ok (.iload_n 2, 1) := by decide +kernel
theorem dX7_voice_16 : decode cX7_voice 16 = .ok (.i2l, 1) := by decide +kernel
theorem dX7_voice_17 : decode cX7_voice 17 = .ok (.lconst 1, 1) := by decide +kernel
theorem dX7_voice_18 : decode cX7_voice 18 = .ok (.ldc2_w 204, 3) := by decide +kernel
theorem dX7_voice_21 : decode cX7_voice 21 = .ok (.invokestatic 78, 3) := by decide +kernel
theorem dX7_voice_24 : decode cX7_voice 24 = .ok (.ifCond .ne 6, 3) := by decide +kernel
theorem dX7_voice_27 : decode cX7_voice 27 = .ok (.bipush (-2), 2) := by decide +kernel
theorem dX7_voice_29 : decode cX7_voice 29 = .ok (.ireturn, 1) := by decide +kernel
theorem dX7_voice_30 : decode cX7_voice 30 = .ok (.aload_n 0, 1) := by decide +kernel
theorem dX7_voice_31 : decode cX7_voice 31 = .ok (.getfield 22, 3) := by decide +kernel
theorem dX7_voice_34 : decode cX7_voice 34 = .ok (.iload_n 1, 1) := by decide +kernel
theorem dX7_voice_35 : decode cX7_voice 35 = .ok (.iaload, 1) := by decide +kernel
theorem dX7_voice_36 : decode cX7_voice 36 = .ok (.istore_n 3, 1) := by decide +kernel
theorem dX7_voice_37 : decode cX7_voice 37 = .ok (.aload_n 0, 1) := by decide +kernel
theorem dX7_voice_38 : decode cX7_voice 38 = .ok (.getfield 22, 3) := by decide +kernel
theorem dX7_voice_41 : decode cX7_voice 41 = .ok (.iload_n 1, 1) := by decide +kernel
theorem dX7_voice_42 : decode cX7_voice 42 = .ok (.iload_n 2, 1) := by decide +kernel
theorem dX7_voice_43 : decode cX7_voice 43 = .ok (.iastore, 1) := by decide +kernel
theorem dX7_voice_44 : decode cX7_voice 44 = .ok (.iload_n 3, 1) := by decide +kernel
theorem dX7_voice_45 : decode cX7_voice 45 = .ok (.ireturn, 1) := by decide +kernel
set_option maxRecDepth 20000 in
theorem ggX7_music_X7_in : GoodIn wsX7_music wsX7_in := goodIn_r _ [8] (by decide +kernel) (by decide +kernel)
set_option maxRecDepth 20000 in
theorem gX7_music_X7_in : GoodIn wsX7_music (va_wsS RX7 78 yX7_in wsX7_in) := goodIn_app (goodIn_of _ (by decide +kernel)) ggX7_music_X7_in
theorem dX7_music_0 : decode cX7_music 0 = .ok (.aload_n 0, 1) := by decide +kernel
theorem dX7_music_1 : decode cX7_music 1 = .ok (.iconst 0, 1) := by decide +kernel
theorem dX7_music_2 : decode cX7_music 2 = .ok (.putfield 71, 3) := by decide +kernel
theorem dX7_music_5 : decode cX7_music 5 = .ok (.iload_n 1, 1) := by decide +kernel
theorem dX7_music_6 : decode cX7_music 6 = .ok (.i2l, 1) := by decide +kernel
theorem dX7_music_7 : decode cX7_music 7 = .ok (.lconst 0, 1) := by decide +kernel
theorem dX7_music_8 : decode cX7_music 8 = .ok (.ldc2_w 204, 3) := by decide +kernel
theorem dX7_music_11 : decode cX7_music 11 = .ok (.invokestatic 78, 3) := by decide +kernel
theorem dX7_music_14 : decode cX7_music 14 = .ok (.ifCond .ne 6, 3) := by decide +kernel
theorem dX7_music_17 : decode cX7_music 17 = .ok (.bipush (-2), 2) := by decide +kernel
theorem dX7_music_19 : decode cX7_music 19 = .ok (.ireturn, 1) := by decide +kernel
theorem dX7_music_20 : decode cX7_music 20 = .ok (.aload_n 0, 1) := by decide +kernel
theorem dX7_music_21 : decode cX7_music 21 = .ok (.getfield 128, 3) := by decide +kernel
theorem dX7_music_24 : decode cX7_music 24 = .ok (.istore_n 3, 1) := by decide +kernel
theorem dX7_music_25 : decode cX7_music 25 = .ok (.aload_n 0, 1) := by decide +kernel
theorem dX7_music_26 : decode cX7_music 26 = .ok (.iload_n 1, 1) := by decide +kernel
theorem dX7_music_27 : decode cX7_music 27 = .ok (.putfield 128, 3) := by decide +kernel
theorem dX7_music_30 : decode cX7_music 30 = .ok (.aload_n 0, 1) := by decide +kernel
theorem dX7_music_31 : decode cX7_music 31 = .ok (.iload_n 2, 1) := by decide +kernel
theorem dX7_music_32 : decode cX7_music 32 = .ok (.putfield 131, 3) := by decide +kernel
theorem dX7_music_35 : decode cX7_music 35 = .ok (.iload_n 3, 1) := by decide +kernel
theorem dX7_music_36 : decode cX7_music 36 = .ok (.ireturn, 1) := by decide +kernel
set_option maxRecDepth 20000 in
theorem ggX7_eats_X7_in : GoodIn wsX7_eats wsX7_in := goodIn_r _ [7] (by decide +kernel) (by decide +kernel)
set_option maxRecDepth 20000 in
theorem gX7_eats_X7_in : GoodIn wsX7_eats (va_wsS RX7 78 yX7_in wsX7_in) := goodIn_app (goodIn_of _ (by decide +kernel)) ggX7_eats_X7_in
theorem dX7_eats_0 : decode cX7_eats 0 = .ok (.aload_n 0, 1) := by decide +kernel
theorem dX7_eats_1 : decode cX7_eats 1 = .ok (.iconst 0, 1) := by decide +kernel
theorem dX7_eats_2 : decode cX7_eats 2 = .ok (.putfield 71, 3) := by decide +kernel
theorem dX7_eats_5 : decode cX7_eats 5 = .ok (.iload_n 1, 1) := by decide +kernel
theorem dX7_eats_6 : decode cX7_eats 6 = .ok (.i2l, 1) := by decide +kernel
theorem dX7_eats_7 : decode cX7_eats 7 = .ok (.lconst 0, 1) := by decide +kernel
theorem dX7_eats_8 : decode cX7_eats 8 = .ok (.ldc2_w 204, 3) := by decide +kernel
theorem dX7_eats_11 : decode cX7_eats 11 = .ok (.invokestatic 78, 3) := by decide +kernel
theorem dX7_eats_14 : decode cX7_eats 14 = .ok (.ifCond .ne 6, 3) := by decide +kernel
theorem dX7_eats_17 : decode cX7_eats 17 = .ok (.bipush (-2), 2) := by decide +kernel
theorem dX7_eats_19 : decode cX7_eats 19 = .ok (.ireturn, 1) := by decide +kernel
theorem dX7_eats_20 : decode cX7_eats 20 = .ok (.aload_n 0, 1) := by decide +kernel
theorem dX7_eats_21 : decode cX7_eats 21 = .ok (.getfield 125, 3) := by decide +kernel
theorem dX7_eats_24 : decode cX7_eats 24 = .ok (.istore_n 2, 1) := by decide +kernel
theorem dX7_eats_25 : decode cX7_eats 25 = .ok (.aload_n 0, 1) := by decide +kernel
theorem dX7_eats_26 : decode cX7_eats 26 = .ok (.iload_n 1, 1) := by decide +kernel
theorem dX7_eats_27 : decode cX7_eats 27 = .ok (.putfield 125, 3) := by decide +kernel
theorem dX7_eats_30 : decode cX7_eats 30 = .ok (.iload_n 2, 1) := by decide +kernel
theorem dX7_eats_31 : decode cX7_eats 31 = .ok (.ireturn, 1) := by decide +kernel
theorem dX7_layPage_0 : decode cX7_layPage 0 = .ok (.iconst 0, 1) := by decide +kernel
theorem dX7_layPage_1 : decode cX7_layPage 1 = .ok (.istore_n 3, 1) := by decide +kernel
theorem dX7_layPage_2 : decode cX7_layPage 2 = .ok (.iload_n 3, 1) := by decide +kernel
theorem dX7_layPage_3 : decode cX7_layPage 3 = .ok (.bipush 8, 2) := by decide +kernel
theorem dX7_layPage_5 : decode cX7_layPage 5 = .ok (.if_icmp .ge 76, 3) := by decide +kernel
theorem dX7_layPage_8 : decode cX7_layPage 8 = .ok (.aload_n 1, 1) := by decide +kernel
theorem dX7_layPage_9 : decode cX7_layPage 9 = .ok (.iload_n 2, 1) := by decide +kernel
theorem dX7_layPage_10 : decode cX7_layPage 10 = .ok (.iload_n 3, 1) := by decide +kernel
theorem dX7_layPage_11 : decode cX7_layPage 11 = .ok (.iadd, 1) := by decide +kernel
theorem dX7_layPage_12 : decode cX7_layPage 12 = .ok (.aload_n 0, 1) := by decide +kernel
theorem dX7_layPage_13 : decode cX7_layPage 13 = .ok (.getfield 13, 3) := by decide +kernel
theorem dX7_layPage_16 : decode cX7_layPage 16 = .ok (.iload_n 3, 1) := by decide +kernel
theorem dX7_layPage_17 : decode cX7_layPage 17 = .ok (.iaload, 1) := by decide +kernel
theorem dX7_layPage_18 : decode cX7_layPage 18 = .ok (.iastore, 1) := by decide +kernel
theorem dX7_layPage_19 : decode cX7_layPage 19 = .ok (.aload_n 1, 1) := by decide +kernel
theorem dX7_layPage_20 : decode cX7_layPage 20 = .ok (.iload_n 2, 1) := by decide +kernel
theorem dX7_layPage_21 : decode cX7_layPage 21 = .ok (.bipush 8, 2) := by decide +kernel
theorem dX7_layPage_23 : decode cX7_layPage 23 = .ok (.iadd, 1) := by decide +kernel
theorem dX7_layPage_24 : decode cX7_layPage 24 = .ok (.iload_n 3, 1) := by decide +kernel
theorem dX7_layPage_25 : decode cX7_layPage 25 = .ok (.iadd, 1) := by decide +kernel
theorem dX7_layPage_26 : decode cX7_layPage 26 = .ok (.aload_n 0, 1) := by decide +kernel
theorem dX7_layPage_27 : decode cX7_layPage 27 = .ok (.getfield 16, 3) := by decide +kernel
theorem dX7_layPage_30 : decode cX7_layPage 30 = .ok (.iload_n 3, 1) := by decide +kernel
theorem dX7_layPage_31 : decode cX7_layPage 31 = .ok (.iaload, 1) := by decide +kernel
theorem dX7_layPage_32 : decode cX7_layPage 32 = .ok (.iastore, 1) := by decide +kernel
theorem dX7_layPage_33 : decode cX7_layPage 33 = .ok (.aload_n 1, 1) := by decide +kernel
theorem dX7_layPage_34 : decode cX7_layPage 34 = .ok (.iload_n 2, 1) := by decide +kernel
theorem dX7_layPage_35 : decode cX7_layPage 35 = .ok (.bipush 16, 2) := by decide +kernel
theorem dX7_layPage_37 : decode cX7_layPage 37 = .ok (.iadd, 1) := by decide +kernel
theorem dX7_layPage_38 : decode cX7_layPage 38 = .ok (.iload_n 3, 1) := by decide +kernel
theorem dX7_layPage_39 : decode cX7_layPage 39 = .ok (.iadd, 1) := by decide +kernel
theorem dX7_layPage_40 : decode cX7_layPage 40 = .ok (.aload_n 0, 1) := by decide +kernel
theorem dX7_layPage_41 : decode cX7_layPage 41 = .ok (.getfield 19, 3) := by decide +kernel
theorem dX7_layPage_44 : decode cX7_layPage 44 = .ok (.iload_n 3, 1) := by decide +kernel
theorem dX7_layPage_45 : decode cX7_layPage 45 = .ok (.iaload, 1) := by decide +kernel
theorem dX7_layPage_46 : decode cX7_layPage 46 = .ok (.iastore, 1) := by decide +kernel
theorem dX7_layPage_47 : decode cX7_layPage 47 = .ok (.aload_n 1, 1) := by decide +kernel
theorem dX7_layPage_48 : decode cX7_layPage 48 = .ok (.iload_n 2, 1) := by decide +kernel
theorem dX7_layPage_49 : decode cX7_layPage 49 = .ok (.bipush 24, 2) := by decide +kernel
theorem dX7_layPage_51 : decode cX7_layPage 51 = .ok (.iadd, 1) := by decide +kernel
theorem dX7_layPage_52 : decode cX7_layPage 52 = .ok (.iload_n 3, 1) := by decide +kernel
theorem dX7_layPage_53 : decode cX7_layPage 53 = .ok (.iadd, 1) := by decide +kernel
theorem dX7_layPage_54 : decode cX7_layPage 54 = .ok (.aload_n 0, 1) := by decide +kernel
theorem dX7_layPage_55 : decode cX7_layPage 55 = .ok (.getfield 22, 3) := by decide +kernel
theorem dX7_layPage_58 : decode cX7_layPage 58 = .ok (.iload_n 3, 1) := by decide +kernel
theorem dX7_layPage_59 : decode cX7_layPage 59 = .ok (.iaload, 1) := by decide +kernel
theorem dX7_layPage_60 : decode cX7_layPage 60 = .ok (.iastore, 1) := by decide +kernel
theorem dX7_layPage_61 : decode cX7_layPage 61 = .ok (.aload_n 1, 1) := by decide +kernel
theorem dX7_layPage_62 : decode cX7_layPage 62 = .ok (.iload_n 2, 1) := by decide +kernel
theorem dX7_layPage_63 : decode cX7_layPage 63 = .ok (.bipush 32, 2) := by decide +kernel
theorem dX7_layPage_65 : decode cX7_layPage 65 = .ok (.iadd, 1) := by decide +kernel
theorem dX7_layPage_66 : decode cX7_layPage 66 = .ok (.iload_n 3, 1) := by decide +kernel
theorem dX7_layPage_67 : decode cX7_layPage 67 = .ok (.iadd, 1) := by decide +kernel
theorem dX7_layPage_68 : decode cX7_layPage 68 = .ok (.aload_n 0, 1) := by decide +kernel
theorem dX7_layPage_69 : decode cX7_layPage 69 = .ok (.getfield 25, 3) := by decide +kernel
theorem dX7_layPage_72 : decode cX7_layPage 72 = .ok (.iload_n 3, 1) := by decide +kernel
theorem dX7_layPage_73 : decode cX7_layPage 73 = .ok (.iaload, 1) := by decide +kernel
theorem dX7_layPage_74 : decode cX7_layPage 74 = .ok (.iastore, 1) := by decide +kernel
theorem dX7_layPage_75 : decode cX7_layPage 75 = .ok (.iinc 3 1, 3) := by decide +kernel
theorem dX7_layPage_78 : decode cX7_layPage 78 = .ok (.goto (-76), 3) := by decide +kernel
theorem dX7_layPage_81 : decode cX7_layPage 81 = .ok (.aload_n 1, 1) := by decide +kernel
theorem dX7_layPage_82 : decode cX7_layPage 82 = .ok (.iload_n 2, 1) := by decide +kernel
theorem dX7_layPage_83 : decode cX7_layPage 83 = .ok (.bipush 40, 2) := by decide +kernel
theorem dX7_layPage_85 : decode cX7_layPage 85 = .ok (.iadd, 1) := by decide +kernel
theorem dX7_layPage_86 : decode cX7_layPage 86 = .ok (.aload_n 0, 1) := by decide +kernel
theorem dX7_layPage_87 : decode cX7_layPage 87 = .ok (.getfield 75, 3) := by decide +kernel
theorem dX7_layPage_90 : decode cX7_layPage 90 = .ok (.iastore, 1) := by decide +kernel
theorem dX7_layPage_91 : decode cX7_layPage 91 = .ok (.aload_n 1, 1) := by decide +kernel
theorem dX7_layPage_92 : decode cX7_layPage 92 = .ok (.iload_n 2, 1) := by decide +kernel
theorem dX7_layPage_93 : decode cX7_layPage 93 = .ok (.bipush 41, 2) := by decide +kernel
theorem dX7_layPage_95 : decode cX7_layPage 95 = .ok (.iadd, 1) := by decide +kernel
theorem dX7_layPage_96 : decode cX7_layPage 96 = .ok (.aload_n 0, 1) := by decide +kernel
theorem dX7_layPage_97 : decode cX7_layPage 97 = .ok (.getfield 128, 3) := by decide +kernel
theorem dX7_layPage_100 : decode cX7_layPage 100 = .ok (.iastore, 1) := by decide +kernel
theorem dX7_layPage_101 : decode cX7_layPage 101 = .ok (.return_, 1) := by decide +kernel
theorem dX7_takePage_0 : decode cX7_takePage 0 = .ok (.iconst 0, 1) := by decide +kernel
theorem dX7_takePage_1 : decode cX7_takePage 1 = .ok (.istore_n 3, 1) := by decide +kernel
theorem dX7_takePage_2 : decode cX7_takePage 2 = .ok (.iload_n 3, 1) := by decide +kernel
theorem dX7_takePage_3 : decode cX7_takePage 3 = .ok (.bipush 8, 2) := by decide +kernel
theorem dX7_takePage_5 : decode cX7_takePage 5 = .ok (.if_icmp .ge 76, 3) := by decide +kernel
theorem dX7_takePage_8 : decode cX7_takePage 8 = .ok (.aload_n 0, 1) := by decide +kernel
theorem dX7_takePage_9 : decode cX7_takePage 9 = .ok (.getfield 13, 3) := by decide +kernel
theorem dX7_takePage_12 : decode cX7_takePage 12 = .ok (.iload_n 3, 1) := by decide +kernel
theorem dX7_takePage_13 : decode cX7_takePage 13 = .ok (.aload_n 1, 1) := by decide +kernel
theorem dX7_takePage_14 : decode cX7_takePage 14 = .ok (.iload_n 2, 1) := by decide +kernel
theorem dX7_takePage_15 : decode cX7_takePage 15 = .ok (.iload_n 3, 1) := by decide +kernel
theorem dX7_takePage_16 : decode cX7_takePage 16 = .ok (.iadd, 1) := by decide +kernel
theorem dX7_takePage_17 : decode cX7_takePage 17 = .ok (.iaload, 1) := by decide +kernel
theorem dX7_takePage_18 : decode cX7_takePage 18 = .ok (.iastore, 1) := by decide +kernel
theorem dX7_takePage_19 : decode cX7_takePage 19 = .ok (.aload_n 0, 1) := by decide +kernel
theorem dX7_takePage_20 : decode cX7_takePage 20 = .ok (.getfield 16, 3) := by decide +kernel
theorem dX7_takePage_23 : decode cX7_takePage 23 = .ok (.iload_n 3, 1) := by decide +kernel
theorem dX7_takePage_24 : decode cX7_takePage 24 = .ok (.aload_n 1, 1) := by decide +kernel
theorem dX7_takePage_25 : decode cX7_takePage 25 = .ok (.iload_n 2, 1) := by decide +kernel
theorem dX7_takePage_26 : decode cX7_takePage 26 = .ok (.bipush 8, 2) := by decide +kernel
theorem dX7_takePage_28 : decode cX7_takePage 28 = .ok (.iadd, 1) := by decide +kernel
theorem dX7_takePage_29 : decode cX7_takePage 29 = .ok (.iload_n 3, 1) := by decide +kernel
theorem dX7_takePage_30 : decode cX7_takePage 30 = .ok (.iadd, 1) := by decide +kernel
theorem dX7_takePage_31 : decode cX7_takePage 31 = .ok (.iaload, 1) := by decide +kernel
theorem dX7_takePage_32 : decode cX7_takePage 32 = .ok (.iastore, 1) := by decide +kernel
theorem dX7_takePage_33 : decode cX7_takePage 33 = .ok (.aload_n 0, 1) := by decide +kernel
theorem dX7_takePage_34 : decode cX7_takePage 34 = .ok (.getfield 19, 3) := by decide +kernel
theorem dX7_takePage_37 : decode cX7_takePage 37 = .ok (.iload_n 3, 1) := by decide +kernel
theorem dX7_takePage_38 : decode cX7_takePage 38 = .ok (.aload_n 1, 1) := by decide +kernel
theorem dX7_takePage_39 : decode cX7_takePage 39 = .ok (.iload_n 2, 1) := by decide +kernel
theorem dX7_takePage_40 : decode cX7_takePage 40 = .ok (.bipush 16, 2) := by decide +kernel
theorem dX7_takePage_42 : decode cX7_takePage 42 = .ok (.iadd, 1) := by decide +kernel
theorem dX7_takePage_43 : decode cX7_takePage 43 = .ok (.iload_n 3, 1) := by decide +kernel
theorem dX7_takePage_44 : decode cX7_takePage 44 = .ok (.iadd, 1) := by decide +kernel
theorem dX7_takePage_45 : decode cX7_takePage 45 = .ok (.iaload, 1) := by decide +kernel
theorem dX7_takePage_46 : decode cX7_takePage 46 = .ok (.iastore, 1) := by decide +kernel
theorem dX7_takePage_47 : decode cX7_takePage 47 = .ok (.aload_n 0, 1) := by decide +kernel
theorem dX7_takePage_48 : decode cX7_takePage 48 = .ok (.getfield 22, 3) := by decide +kernel
theorem dX7_takePage_51 : decode cX7_takePage 51 = .ok (.iload_n 3, 1) := by decide +kernel
theorem dX7_takePage_52 : decode cX7_takePage 52 = .ok (.aload_n 1, 1) := by decide +kernel
theorem dX7_takePage_53 : decode cX7_takePage 53 = .ok (.iload_n 2, 1) := by decide +kernel
theorem dX7_takePage_54 : decode cX7_takePage 54 = .ok (.bipush 24, 2) := by decide +kernel
theorem dX7_takePage_56 : decode cX7_takePage 56 = .ok (.iadd, 1) := by decide +kernel
theorem dX7_takePage_57 : decode cX7_takePage 57 = .ok (.iload_n 3, 1) := by decide +kernel
theorem dX7_takePage_58 : decode cX7_takePage 58 = .ok (.iadd, 1) := by decide +kernel
theorem dX7_takePage_59 : decode cX7_takePage 59 = .ok (.iaload, 1) := by decide +kernel
theorem dX7_takePage_60 : decode cX7_takePage 60 = .ok (.iastore, 1) := by decide +kernel
theorem dX7_takePage_61 : decode cX7_takePage 61 = .ok (.aload_n 0, 1) := by decide +kernel
theorem dX7_takePage_62 : decode cX7_takePage 62 = .ok (.getfield 25, 3) := by decide +kernel
theorem dX7_takePage_65 : decode cX7_takePage 65 = .ok (.iload_n 3, 1) := by decide +kernel
theorem dX7_takePage_66 : decode cX7_takePage 66 = .ok (.aload_n 1, 1) := by decide +kernel
theorem dX7_takePage_67 : decode cX7_takePage 67 = .ok (.iload_n 2, 1) := by decide +kernel
theorem dX7_takePage_68 : decode cX7_takePage 68 = .ok (.bipush 32, 2) := by decide +kernel
theorem dX7_takePage_70 : decode cX7_takePage 70 = .ok (.iadd, 1) := by decide +kernel
theorem dX7_takePage_71 : decode cX7_takePage 71 = .ok (.iload_n 3, 1) := by decide +kernel
theorem dX7_takePage_72 : decode cX7_takePage 72 = .ok (.iadd, 1) := by decide +kernel
theorem dX7_takePage_73 : decode cX7_takePage 73 = .ok (.iaload, 1) := by decide +kernel
theorem dX7_takePage_74 : decode cX7_takePage 74 = .ok (.iastore, 1) := by decide +kernel
theorem dX7_takePage_75 : decode cX7_takePage 75 = .ok (.iinc 3 1, 3) := by decide +kernel
theorem dX7_takePage_78 : decode cX7_takePage 78 = .ok (.goto (-76), 3) := by decide +kernel
theorem dX7_takePage_81 : decode cX7_takePage 81 = .ok (.aload_n 0, 1) := by decide +kernel
theorem dX7_takePage_82 : decode cX7_takePage 82 = .ok (.aload_n 1, 1) := by decide +kernel
theorem dX7_takePage_83 : decode cX7_takePage 83 = .ok (.iload_n 2, 1) := by decide +kernel
theorem dX7_takePage_84 : decode cX7_takePage 84 = .ok (.bipush 40, 2) := by decide +kernel
theorem dX7_takePage_86 : decode cX7_takePage 86 = .ok (.iadd, 1) := by decide +kernel
theorem dX7_takePage_87 : decode cX7_takePage 87 = .ok (.iaload, 1) := by decide +kernel
theorem dX7_takePage_88 : decode cX7_takePage 88 = .ok (.putfield 75, 3) := by decide +kernel
theorem dX7_takePage_91 : decode cX7_takePage 91 = .ok (.aload_n 0, 1) := by decide +kernel
theorem dX7_takePage_92 : decode cX7_takePage 92 = .ok (.aload_n 1, 1) := by decide +kernel
theorem dX7_takePage_93 : decode cX7_takePage 93 = .ok (.iload_n 2, 1) := by decide +kernel
theorem dX7_takePage_94 : decode cX7_takePage 94 = .ok (.bipush 41, 2) := by decide +kernel
theorem dX7_takePage_96 : decode cX7_takePage 96 = .ok (.iadd, 1) := by decide +kernel
theorem dX7_takePage_97 : decode cX7_takePage 97 = .ok (.iaload, 1) := by decide +kernel
theorem dX7_takePage_98 : decode cX7_takePage 98 = .ok (.putfield 128, 3) := by decide +kernel
theorem dX7_takePage_101 : decode cX7_takePage 101 = .ok (.return_, 1) := by decide +kernel
set_option maxRecDepth 20000 in
theorem ggX7_note_X7_layPage : GoodIn wsX7_note wsX7_layPage := goodIn_r _ [7, 8, 9, 10, 11, 12, 13, 14, 15, 16, 17, 18, 19, 20, 21, 22, 23, 24, 25, 26, 27, 28, 29, 30, 31, 32, 33, 34, 35, 36, 37, 38, 39, 40, 41, 42, 43, 44, 45, 46, 47, 48, 49, 50, 51, 52, 53, 54] (by decide +kernel) (by decide +kernel)
set_option maxRecDepth 20000 in
theorem gX7_note_X7_layPage : GoodIn wsX7_note (wsV RX7 206 RX7 yX7_layPage wsX7_layPage) := goodIn_app (goodIn_of _ (by decide +kernel)) ggX7_note_X7_layPage
theorem dX7_note_0 : decode cX7_note 0 = .ok (.aload_n 0, 1) := by decide +kernel
theorem dX7_note_1 : decode cX7_note 1 = .ok (.getfield 135, 3) := by decide +kernel
theorem dX7_note_4 : decode cX7_note 4 = .ok (.bipush 10, 2) := by decide +kernel
theorem dX7_note_6 : decode cX7_note 6 = .ok (.if_icmp .ne 43, 3) := by decide +kernel
theorem dX7_note_9 : decode cX7_note 9 = .ok (.iconst 0, 1) := by decide +kernel
theorem dX7_note_10 : decode cX7_note 10 = .ok (.istore_n 1, 1) := by decide +kernel
theorem dX7_note_11 : decode cX7_note 11 = .ok (.iload_n 1, 1) := by decide +kernel
theorem dX7_note_12 : decode cX7_note 12 = .ok (.sipush 378, 3) := by decide +kernel
theorem dX7_note_15 : decode cX7_note 15 = .ok (.if_icmp .ge 24, 3) := by decide +kernel
theorem dX7_note_18 : decode cX7_note 18 = .ok (.aload_n 0, 1) := by decide +kernel
theorem dX7_note_19 : decode cX7_note 19 = .ok (.getfield 40, 3) := by decide +kernel
theorem dX7_note_22 : decode cX7_note 22 = .ok (.iload_n 1, 1) := by decide +kernel
theorem dX7_note_23 : decode cX7_note 23 = .ok (.aload_n 0, 1) := by decide +kernel
theorem dX7_note_24 : decode cX7_note 24 = .ok (.getfield 40, 3) := by decide +kernel
theorem dX7_note_27 : decode cX7_note 27 = .ok (.iload_n 1, 1) := by decide +kernel
theorem dX7_note_28 : decode cX7_note 28 = .ok (.bipush 42, 2) := by decide +kernel
theorem dX7_note_30 : decode cX7_note 30 = .ok (.iadd, 1) := by decide +kernel
theorem dX7_note_31 : decode cX7_note 31 = .ok (.iaload, 1) := by decide +kernel
theorem dX7_note_32 : decode cX7_note 32 = .ok (.iastore, 1) := by decide +kernel
theorem dX7_note_33 : decode cX7_note 33 = .ok (.iinc 1 1, 3) := by decide +kernel
theorem dX7_note_36 : decode cX7_note 36 = .ok (.goto (-25), 3) := by decide +kernel
theorem dX7_note_39 : decode cX7_note 39 = .ok (.aload_n 0, 1) := by decide +kernel
theorem dX7_note_40 : decode cX7_note 40 = .ok (.dup, 1) := by decide +kernel
theorem dX7_note_41 : decode cX7_note 41 = .ok (.getfield 135, 3) := by decide +kernel
theorem dX7_note_44 : decode cX7_note 44 = .ok (.iconst 1, 1) := by decide +kernel
theorem dX7_note_45 : decode cX7_note 45 = .ok (.isub, 1) := by decide +kernel
theorem dX7_note_46 : decode cX7_note 46 = .ok (.putfield 135, 3) := by decide +kernel
theorem dX7_note_49 : decode cX7_note 49 = .ok (.aload_n 0, 1) := by decide +kernel
theorem dX7_note_50 : decode cX7_note 50 = .ok (.aload_n 0, 1) := by decide +kernel
theorem dX7_note_51 : decode cX7_note 51 = .ok (.getfield 40, 3) := by decide +kernel
theorem dX7_note_54 : decode cX7_note 54 = .ok (.bipush 42, 2) := by decide +kernel
theorem dX7_note_56 : decode cX7_note 56 = .ok (.aload_n 0, 1) := by decide +kernel
theorem dX7_note_57 : decode cX7_note 57 = .ok (.getfield 135, 3) := by decide +kernel
theorem dX7_note_60 : decode cX7_note 60 = .ok (.imul, 1) := by decide +kernel
theorem dX7_note_61 : decode cX7_note 61 = .ok (.invokevirtual 206, 3) := by decide +kernel
theorem dX7_note_64 : decode cX7_note 64 = .ok (.aload_n 0, 1) := by decide +kernel
theorem dX7_note_65 : decode cX7_note 65 = .ok (.dup, 1) := by decide +kernel
theorem dX7_note_66 : decode cX7_note 66 = .ok (.getfield 135, 3) := by decide +kernel
theorem dX7_note_69 : decode cX7_note 69 = .ok (.iconst 1, 1) := by decide +kernel
theorem dX7_note_70 : decode cX7_note 70 = .ok (.iadd, 1) := by decide +kernel
theorem dX7_note_71 : decode cX7_note 71 = .ok (.putfield 135, 3) := by decide +kernel
theorem dX7_note_74 : decode cX7_note 74 = .ok (.return_, 1) := by decide +kernel
set_option maxRecDepth 20000 in
theorem ggX7_minute_X7_note : GoodIn wsX7_minute wsX7_note := goodIn_r _ [11, 12, 13, 14, 15, 16, 10, 17, 18, 19, 20, 3, 21, 2, 6, 83, 84, 85, 86, 87, 88, 89, 90, 91, 92, 93, 94, 95, 96, 97, 98, 99, 100, 101, 102, 103, 104, 105, 106, 107, 108, 109, 110, 111, 112, 113, 114, 115, 116, 117, 118, 119, 120, 121, 122] (by decide +kernel) (by decide +kernel)
set_option maxRecDepth 20000 in
theorem gX7_minute_X7_note : GoodIn wsX7_minute (wsV RX7 210 RX7 yX7_note wsX7_note) := goodIn_app (goodIn_of _ (by decide +kernel)) ggX7_minute_X7_note
set_option maxRecDepth 20000 in
theorem ggX7_minute_X7_begin : GoodIn wsX7_minute wsX7_begin := goodIn_r _ [25, 2, 4, 3, 6, 5, 26, 27, 28, 29, 30, 31, 83, 84, 85, 86, 87, 88, 89, 90, 91, 92, 93, 94, 95, 96, 97, 98, 99, 100, 101, 102, 103, 104, 105, 106, 107, 108, 109, 110, 111, 112, 113, 114, 115, 116, 117, 118, 119, 120, 121, 122] (by decide +kernel) (by decide +kernel)
set_option maxRecDepth 20000 in
theorem gX7_minute_X7_begin : GoodIn wsX7_minute (wsV RX7 195 RX7 yX7_begin wsX7_begin) := goodIn_app (goodIn_of _ (by decide +kernel)) ggX7_minute_X7_begin
set_option maxRecDepth 20000 in
theorem ggX7_minute_X7_go : GoodIn wsX7_minute wsX7_go := goodIn_r _ [35, 26, 36, 4, 5, 37, 38, 39, 10, 40, 31, 41, 42, 43, 44, 28, 45, 46, 47, 48, 49, 50, 51, 52, 20, 29, 53, 54, 55, 56, 57, 58, 59, 60, 61, 62, 63, 18, 19, 64, 65, 66, 67, 68, 69, 70, 71, 72, 73, 74, 75, 76, 77, 78, 79, 80, 81, 82, 21, 83, 84, 85, 86, 87, 88, 89, 90, 91, 92, 93, 94, 95, 96, 97, 98, 99, 100, 101, 102, 103, 104, 105, 106, 107, 108, 109, 110, 111, 112, 113, 114, 115, 116, 117, 118, 119, 120, 121, 122] (by decide +kernel) (by decide +kernel)
set_option maxRecDepth 20000 in
theorem gX7_minute_X7_go : GoodIn wsX7_minute (wsV RX7 213 RX7 yX7_go wsX7_go) := goodIn_app (goodIn_of _ (by decide +kernel)) ggX7_minute_X7_go
theorem dX7_minute_0 : decode cX7_minute 0 = .ok (.aload_n 0, 1) := by decide +kernel
theorem dX7_minute_1 : decode cX7_minute 1 = .ok (.iconst 0, 1) := by decide +kernel
theorem dX7_minute_2 : decode cX7_minute 2 = .ok (.putfield 71, 3) := by decide +kernel
theorem dX7_minute_5 : decode cX7_minute 5 = .ok (.aload_n 0, 1) := by decide +kernel
theorem dX7_minute_6 : decode cX7_minute 6 = .ok (.invokevirtual 210, 3) := by decide +kernel
theorem dX7_minute_9 : decode cX7_minute 9 = .ok (.aload_n 0, 1) := by decide +kernel
theorem dX7_minute_10 : decode cX7_minute 10 = .ok (.invokevirtual 195, 3) := by decide +kernel
theorem dX7_minute_13 : decode cX7_minute 13 = .ok (.aload_n 0, 1) := by decide +kernel
theorem dX7_minute_14 : decode cX7_minute 14 = .ok (.invokevirtual 213, 3) := by decide +kernel
theorem dX7_minute_17 : decode cX7_minute 17 = .ok (.istore_n 1, 1) := by decide +kernel
theorem dX7_minute_18 : decode cX7_minute 18 = .ok (.iconst 0, 1) := by decide +kernel
theorem dX7_minute_19 : decode cX7_minute 19 = .ok (.istore_n 2, 1) := by decide +kernel
theorem dX7_minute_20 : decode cX7_minute 20 = .ok (.iload_n 2, 1) := by decide +kernel
theorem dX7_minute_21 : decode cX7_minute 21 = .ok (.aload_n 0, 1) := by decide +kernel
theorem dX7_minute_22 : decode cX7_minute 22 = .ok (.getfield 75, 3) := by decide +kernel
theorem dX7_minute_25 : decode cX7_minute 25 = .ok (.if_icmp .ge 21, 3) := by decide +kernel
theorem dX7_minute_28 : decode cX7_minute 28 = .ok (.aload_n 0, 1) := by decide +kernel
theorem dX7_minute_29 : decode cX7_minute 29 = .ok (.getfield 22, 3) := by decide +kernel
theorem dX7_minute_32 : decode cX7_minute 32 = .ok (.iload_n 2, 1) := by decide +kernel
theorem dX7_minute_33 : decode cX7_minute 33 = .ok (.aload_n 0, 1) := by decide +kernel
theorem dX7_minute_34 : decode cX7_minute 34 = .ok (.getfield 56, 3) := by decide +kernel
theorem dX7_minute_37 : decode cX7_minute 37 = .ok (.iload_n 2, 1) := by decide +kernel
theorem dX7_minute_38 : decode cX7_minute 38 = .ok (.iaload, 1) := by decide +kernel
theorem dX7_minute_39 : decode cX7_minute 39 = .ok (.iastore, 1) := by decide +kernel
theorem dX7_minute_40 : decode cX7_minute 40 = .ok (.iinc 2 1, 3) := by decide +kernel
theorem dX7_minute_43 : decode cX7_minute 43 = .ok (.goto (-23), 3) := by decide +kernel
theorem dX7_minute_46 : decode cX7_minute 46 = .ok (.aload_n 0, 1) := by decide +kernel
theorem dX7_minute_47 : decode cX7_minute 47 = .ok (.aload_n 0, 1) := by decide +kernel
theorem dX7_minute_48 : decode cX7_minute 48 = .ok (.getfield 138, 3) := by decide +kernel
theorem dX7_minute_51 : decode cX7_minute 51 = .ok (.putfield 128, 3) := by decide +kernel
theorem dX7_minute_54 : decode cX7_minute 54 = .ok (.iload_n 1, 1) := by decide +kernel
theorem dX7_minute_55 : decode cX7_minute 55 = .ok (.ifCond .ge 7, 3) := by decide +kernel
theorem dX7_minute_58 : decode cX7_minute 58 = .ok (.iconst 0, 1) := by decide +kernel
theorem dX7_minute_59 : decode cX7_minute 59 = .ok (.goto 4, 3) := by decide +kernel
theorem dX7_minute_62 : decode cX7_minute 62 = .ok (.iload_n 1, 1) := by decide +kernel
theorem dX7_minute_63 : decode cX7_minute 63 = .ok (.ireturn, 1) := by decide +kernel
theorem dX7_isTaken_0 : decode cX7_isTaken 0 = .ok (.iconst 0, 1) := by decide +kernel
theorem dX7_isTaken_1 : decode cX7_isTaken 1 = .ok (.istore_n 2, 1) := by decide +kernel
theorem dX7_isTaken_2 : decode cX7_isTaken 2 = .ok (.iconst 0, 1) := by decide +kernel
theorem dX7_isTaken_3 : decode cX7_isTaken 3 = .ok (.istore_n 3, 1) := by decide +kernel
theorem dX7_isTaken_4 : decode cX7_isTaken 4 = .ok (.iload_n 3, 1) := by decide +kernel
theorem dX7_isTaken_5 : decode cX7_isTaken 5 = .ok (.aload_n 0, 1) := by decide +kernel
theorem dX7_isTaken_6 : decode cX7_isTaken 6 = .ok (.getfield 75, 3) := by decide +kernel
theorem dX7_isTaken_9 : decode cX7_isTaken 9 = .ok (.if_icmp .ge 29, 3) := by decide +kernel
theorem dX7_isTaken_12 : decode cX7_isTaken 12 = .ok (.iload_n 2, 1) := by decide +kernel
theorem dX7_isTaken_13 : decode cX7_isTaken 13 = .ok (.ifCond .ne 13, 3) := by decide +kernel
theorem dX7_isTaken_16 : decode cX7_isTaken 16 = .ok (.aload_n 0, 1) := by decide +kernel
theorem dX7_isTaken_17 : decode cX7_isTaken 17 = .ok (.getfield 16, 3) := by decide +kernel
theorem dX7_isTaken_20 : decode cX7_isTaken 20 = .ok (.iload_n 3, 1) := by decide +kernel
theorem dX7_isTaken_21 : decode cX7_isTaken 21 = .ok (.iaload, 1) := by decide +kernel
theorem dX7_isTaken_22 : decode cX7_isTaken 22 = .ok (.iload_n 1, 1) := by decide +kernel
theorem dX7_isTaken_23 : decode cX7_isTaken 23 = .ok (.if_icmp .ne 7, 3) := by decide +kernel
theorem dX7_isTaken_26 : decode cX7_isTaken 26 = .ok (.iconst 1, 1) := by decide +kernel
theorem dX7_isTaken_27 : decode cX7_isTaken 27 = .ok (.goto 4, 3) := by decide +kernel
theorem dX7_isTaken_30 : decode cX7_isTaken 30 = .ok (.iconst 0, 1) := by decide +kernel
theorem dX7_isTaken_31 : decode cX7_isTaken 31 = .ok (.istore_n 2, 1) := by decide +kernel
theorem dX7_isTaken_32 : decode cX7_isTaken 32 = .ok (.iinc 3 1, 3) := by decide +kernel
theorem dX7_isTaken_35 : decode cX7_isTaken 35 = .ok (.goto (-31), 3) := by decide +kernel
theorem dX7_isTaken_38 : decode cX7_isTaken 38 = .ok (.iload_n 2, 1) := by decide +kernel
theorem dX7_isTaken_39 : decode cX7_isTaken 39 = .ok (.ireturn, 1) := by decide +kernel
set_option maxRecDepth 20000 in
theorem ggX7_firstFree_X7_isTaken : GoodIn wsX7_firstFree wsX7_isTaken := goodIn_r _ [5, 6, 7, 8, 9, 10, 11, 12, 13, 14, 15, 16, 17, 18, 19, 20, 21, 22, 23, 24, 25, 26, 27, 28, 29, 30, 31, 32, 33, 34, 35, 36, 37, 38, 39, 40, 41, 42, 43, 44, 45, 46, 47] (by decide +kernel) (by decide +kernel)
set_option maxRecDepth 20000 in
theorem gX7_firstFree_X7_isTaken : GoodIn wsX7_firstFree (wsV RX7 216 RX7 yX7_isTaken wsX7_isTaken) := goodIn_app (goodIn_of _ (by decide +kernel)) ggX7_firstFree_X7_isTaken
theorem dX7_firstFree_0 : decode cX7_firstFree 0 = .ok (.iconst 0, 1) := by decide +kernel
theorem dX7_firstFree_1 : decode cX7_firstFree 1 = .ok (.istore_n 1, 1) := by decide +kernel
theorem dX7_firstFree_2 : decode cX7_firstFree 2 = .ok (.aload_n 0, 1) := by decide +kernel
theorem dX7_firstFree_3 : decode cX7_firstFree 3 = .ok (.iload_n 1, 1) := by decide +kernel
theorem dX7_firstFree_4 : decode cX7_firstFree 4 = .ok (.invokevirtual 216, 3) := by decide +kernel
theorem dX7_firstFree_7 : decode cX7_firstFree 7 = .ok (.ifCond .eq 9, 3) := by decide +kernel
theorem dX7_firstFree_10 : decode cX7_firstFree 10 = .ok (.iinc 1 1, 3) := by decide +kernel
theorem dX7_firstFree_13 : decode cX7_firstFree 13 = .ok (.goto (-11), 3) := by decide +kernel
theorem dX7_firstFree_16 : decode cX7_firstFree 16 = .ok (.iload_n 1, 1) := by decide +kernel
theorem dX7_firstFree_17 : decode cX7_firstFree 17 = .ok (.ireturn, 1) := by decide +kernel
set_option maxRecDepth 20000 in
theorem ggX7_breaks_X7_noRing : GoodIn wsX7_breaks wsX7_noRing := goodIn_r _ [12, 3, 13, 14, 11, 15, 35, 36, 37, 38, 39, 40, 41, 42, 43, 44, 45, 46, 47, 48, 49, 50, 51, 52, 53, 54, 55, 56, 57, 58, 59, 60, 61, 62, 63, 64, 65, 66, 67, 68, 69, 70, 71, 72, 73, 74] (by decide +kernel) (by decide +kernel)
set_option maxRecDepth 20000 in
theorem gX7_breaks_X7_noRing : GoodIn wsX7_breaks (wsV RX7 201 RX7 yX7_noRing wsX7_noRing) := goodIn_app (goodIn_of _ (by decide +kernel)) ggX7_breaks_X7_noRing
set_option maxRecDepth 20000 in
theorem ggX7_breaks_X7_note : GoodIn wsX7_breaks wsX7_note := goodIn_r _ [19, 20, 21, 22, 23, 24, 11, 25, 4, 7, 2, 5, 6, 3, 26, 35, 36, 37, 38, 39, 40, 41, 42, 43, 44, 45, 46, 47, 48, 49, 50, 51, 52, 53, 54, 55, 56, 57, 58, 59, 60, 61, 62, 63, 64, 65, 66, 67, 68, 69, 70, 71, 72, 73, 74] (by decide +kernel) (by decide +kernel)
set_option maxRecDepth 20000 in
theorem gX7_breaks_X7_note : GoodIn wsX7_breaks (wsV RX7 210 RX7 yX7_note wsX7_note) := goodIn_app (goodIn_of _ (by decide +kernel)) ggX7_breaks_X7_note
set_option maxRecDepth 20000 in
theorem ggX7_breaks_X7_firstFree : GoodIn wsX7_breaks wsX7_firstFree := goodIn_r _ [30, 31, 32, 33, 11, 34, 3, 7, 35, 36, 37, 38, 39, 40, 41, 42, 43, 44, 45, 46, 47, 48, 49, 50, 51, 52, 53, 54, 55, 56, 57, 58, 59, 60, 61, 62, 63, 64, 65, 66, 67, 68, 69, 70, 71, 72, 73, 74] (by decide +kernel) (by decide +kernel)
set_option maxRecDepth 20000 in
theorem gX7_breaks_X7_firstFree : GoodIn wsX7_breaks (wsV RX7 219 RX7 yX7_firstFree wsX7_firstFree) := goodIn_app (goodIn_of _ (by decide +kernel)) ggX7_breaks_X7_firstFree
theorem dX7_breaks_0 : decode cX7_breaks 0 = .ok (.aload_n 0, 1) := by decide +kernel
theorem dX7_breaks_1 : decode cX7_breaks 1 = .ok (.iconst 0, 1) := by decide +kernel
theorem dX7_breaks_2 : decode cX7_breaks 2 = .ok (.putfield 71, 3) := by decide +kernel
theorem dX7_breaks_5 : decode cX7_breaks 5 = .ok (.aload_n 0, 1) := by decide +kernel
theorem dX7_breaks_6 : decode cX7_breaks 6 = .ok (.iload_n 1, 1) := by decide +kernel
theorem dX7_breaks_7 : decode cX7_breaks 7 = .ok (.invokevirtual 201, 3) := by decide +kernel
theorem dX7_breaks_10 : decode cX7_breaks 10 = .ok (.ifCond .eq 5, 3) := by decide +kernel
theorem dX7_breaks_13 : decode cX7_breaks 13 = .ok (.iconst (-1), 1) := by decide +kernel
theorem dX7_breaks_14 : decode cX7_breaks 14 = .ok (.ireturn, 1) := by decide +kernel
theorem dX7_breaks_15 : decode cX7_breaks 15 = .ok (.aload_n 0, 1) := by decide +kernel
theorem dX7_breaks_16 : decode cX7_breaks 16 = .ok (.getfield 19, 3) := by decide +kernel
theorem dX7_breaks_19 : decode cX7_breaks 19 = .ok (.iload_n 1, 1) := by decide +kernel
theorem dX7_breaks_20 : decode cX7_breaks 20 = .ok (.iaload, 1) := by decide +kernel
theorem dX7_breaks_21 : decode cX7_breaks 21 = .ok (.iconst 4, 1) := by decide +kernel
theorem dX7_breaks_22 : decode cX7_breaks 22 = .ok (.if_icmp .ge 6, 3) := by decide +kernel
theorem dX7_breaks_25 : decode cX7_breaks 25 = .ok (.bipush (-3), 2) := by decide +kernel
theorem dX7_breaks_27 : decode cX7_breaks 27 = .ok (.ireturn, 1) := by decide +kernel
theorem dX7_breaks_28 : decode cX7_breaks 28 = .ok (.aload_n 0, 1) := by decide +kernel
theorem dX7_breaks_29 : decode cX7_breaks 29 = .ok (.getfield 75, 3) := by decide +kernel
theorem dX7_breaks_32 : decode cX7_breaks 32 = .ok (.bipush 8, 2) := by decide +kernel
theorem dX7_breaks_34 : decode cX7_breaks 34 = .ok (.if_icmp .ne 6, 3) := by decide +kernel
theorem dX7_breaks_37 : decode cX7_breaks 37 = .ok (.bipush (-4), 2) := by decide +kernel
theorem dX7_breaks_39 : decode cX7_breaks 39 = .ok (.ireturn, 1) := by decide +kernel
theorem dX7_breaks_40 : decode cX7_breaks 40 = .ok (.aload_n 0, 1) := by decide +kernel
theorem dX7_breaks_41 : decode cX7_breaks 41 = .ok (.invokevirtual 210, 3) := by decide +kernel
theorem dX7_breaks_44 : decode cX7_breaks 44 = .ok (.aload_n 0, 1) := by decide +kernel
theorem dX7_breaks_45 : decode cX7_breaks 45 = .ok (.getfield 13, 3) := by decide +kernel
theorem dX7_breaks_48 : decode cX7_breaks 48 = .ok (.aload_n 0, 1) := by decide +kernel
theorem dX7_breaks_49 : decode cX7_breaks 49 = .ok (.getfield 75, 3) := by decide +kernel
theorem dX7_breaks_52 : decode cX7_breaks 52 = .ok (.aload_n 0, 1) := by decide +kernel
theorem dX7_breaks_53 : decode cX7_breaks 53 = .ok (.getfield 13, 3) := by decide +kernel
theorem dX7_breaks_56 : decode cX7_breaks 56 = .ok (.iload_n 1, 1) := by decide +kernel
theorem dX7_breaks_57 : decode cX7_breaks 57 = .ok (.iaload, 1) := by decide +kernel
theorem dX7_breaks_58 : decode cX7_breaks 58 = .ok (.iastore, 1) := by decide +kernel
theorem dX7_breaks_59 : decode cX7_breaks 59 = .ok (.aload_n 0, 1) := by decide +kernel
theorem dX7_breaks_60 : decode cX7_breaks 60 = .ok (.getfield 22, 3) := by decide +kernel
theorem dX7_breaks_63 : decode cX7_breaks 63 = .ok (.aload_n 0, 1) := by decide +kernel
theorem dX7_breaks_64 : decode cX7_breaks 64 = .ok (.getfield 75, 3) := by decide +kernel
theorem dX7_breaks_67 : decode cX7_breaks 67 = .ok (.aload_n 0, 1) := by decide +kernel
theorem dX7_breaks_68 : decode cX7_breaks 68 = .ok (.getfield 22, 3) := by decide +kernel
theorem dX7_breaks_71 : decode cX7_breaks 71 = .ok (.iload_n 1, 1) := by decide +kernel
theorem dX7_breaks_72 : decode cX7_breaks 72 = .ok (.iaload, 1) := by decide +kernel
theorem dX7_breaks_73 : decode cX7_breaks 73 = .ok (.iastore, 1) := by decide +kernel
theorem dX7_breaks_74 : decode cX7_breaks 74 = .ok (.aload_n 0, 1) := by decide +kernel
theorem dX7_breaks_75 : decode cX7_breaks 75 = .ok (.getfield 25, 3) := by decide +kernel
theorem dX7_breaks_78 : decode cX7_breaks 78 = .ok (.aload_n 0, 1) := by decide +kernel
theorem dX7_breaks_79 : decode cX7_breaks 79 = .ok (.getfield 75, 3) := by decide +kernel
theorem dX7_breaks_82 : decode cX7_breaks 82 = .ok (.aload_n 0, 1) := by decide +kernel
theorem dX7_breaks_83 : decode cX7_breaks 83 = .ok (.getfield 25, 3) := by decide +kernel
theorem dX7_breaks_86 : decode cX7_breaks 86 = .ok (.iload_n 1, 1) := by decide +kernel
theorem dX7_breaks_87 : decode cX7_breaks 87 = .ok (.iaload, 1) := by decide +kernel
theorem dX7_breaks_88 : decode cX7_breaks 88 = .ok (.iastore, 1) := by decide +kernel
theorem dX7_breaks_89 : decode cX7_breaks 89 = .ok (.aload_n 0, 1) := by decide +kernel
theorem dX7_breaks_90 : decode cX7_breaks 90 = .ok (.getfield 16, 3) := by decide +kernel
theorem dX7_breaks_93 : decode cX7_breaks 93 = .ok (.aload_n 0, 1) := by decide +kernel
theorem dX7_breaks_94 : decode cX7_breaks 94 = .ok (.getfield 75, 3) := by decide +kernel
theorem dX7_breaks_97 : decode cX7_breaks 97 = .ok (.aload_n 0, 1) := by decide +kernel
theorem dX7_breaks_98 : decode cX7_breaks 98 = .ok (.invokevirtual 219, 3) := by decide +kernel
theorem dX7_breaks_101 : decode cX7_breaks 101 = .ok (.iastore, 1) := by decide +kernel
theorem dX7_breaks_102 : decode cX7_breaks 102 = .ok (.aload_n 0, 1) := by decide +kernel
theorem dX7_breaks_103 : decode cX7_breaks 103 = .ok (.getfield 19, 3) := by decide +kernel
theorem dX7_breaks_106 : decode cX7_breaks 106 = .ok (.aload_n 0, 1) := by decide +kernel
theorem dX7_breaks_107 : decode cX7_breaks 107 = .ok (.getfield 75, 3) := by decide +kernel
theorem dX7_breaks_110 : decode cX7_breaks 110 = .ok (.aload_n 0, 1) := by decide +kernel
theorem dX7_breaks_111 : decode cX7_breaks 111 = .ok (.getfield 19, 3) := by decide +kernel
theorem dX7_breaks_114 : decode cX7_breaks 114 = .ok (.iload_n 1, 1) := by decide +kernel
theorem dX7_breaks_115 : decode cX7_breaks 115 = .ok (.iaload, 1) := by decide +kernel
theorem dX7_breaks_116 : decode cX7_breaks 116 = .ok (.aload_n 0, 1) := by decide +kernel
theorem dX7_breaks_117 : decode cX7_breaks 117 = .ok (.getfield 19, 3) := by decide +kernel
theorem dX7_breaks_120 : decode cX7_breaks 120 = .ok (.iload_n 1, 1) := by decide +kernel
theorem dX7_breaks_121 : decode cX7_breaks 121 = .ok (.iaload, 1) := by decide +kernel
theorem dX7_breaks_122 : decode cX7_breaks 122 = .ok (.iconst 2, 1) := by decide +kernel
theorem dX7_breaks_123 : decode cX7_breaks 123 = .ok (.idiv, 1) := by decide +kernel
theorem dX7_breaks_124 : decode cX7_breaks 124 = .ok (.isub, 1) := by decide +kernel
theorem dX7_breaks_125 : decode cX7_breaks 125 = .ok (.iastore, 1) := by decide +kernel
theorem dX7_breaks_126 : decode cX7_breaks 126 = .ok (.aload_n 0, 1) := by decide +kernel
theorem dX7_breaks_127 : decode cX7_breaks 127 = .ok (.getfield 19, 3) := by decide +kernel
theorem dX7_breaks_130 : decode cX7_breaks 130 = .ok (.iload_n 1, 1) := by decide +kernel
theorem dX7_breaks_131 : decode cX7_breaks 131 = .ok (.dup2, 1) := by decide +kernel
theorem dX7_breaks_132 : decode cX7_breaks 132 = .ok (.iaload, 1) := by decide +kernel
theorem dX7_breaks_133 : decode cX7_breaks 133 = .ok (.iconst 2, 1) := by decide +kernel
theorem dX7_breaks_134 : decode cX7_breaks 134 = .ok (.idiv, 1) := by decide +kernel
theorem dX7_breaks_135 : decode cX7_breaks 135 = .ok (.iastore, 1) := by decide +kernel
theorem dX7_breaks_136 : decode cX7_breaks 136 = .ok (.aload_n 0, 1) := by decide +kernel
theorem dX7_breaks_137 : decode cX7_breaks 137 = .ok (.dup, 1) := by decide +kernel
theorem dX7_breaks_138 : decode cX7_breaks 138 = .ok (.getfield 75, 3) := by decide +kernel
theorem dX7_breaks_141 : decode cX7_breaks 141 = .ok (.iconst 1, 1) := by decide +kernel
theorem dX7_breaks_142 : decode cX7_breaks 142 = .ok (.iadd, 1) := by decide +kernel
theorem dX7_breaks_143 : decode cX7_breaks 143 = .ok (.putfield 75, 3) := by decide +kernel
theorem dX7_breaks_146 : decode cX7_breaks 146 = .ok (.aload_n 0, 1) := by decide +kernel
theorem dX7_breaks_147 : decode cX7_breaks 147 = .ok (.getfield 75, 3) := by decide +kernel
theorem dX7_breaks_150 : decode cX7_breaks 150 = .ok (.iconst 1, 1) := by decide +kernel
theorem dX7_breaks_151 : decode cX7_breaks 151 = .ok (.isub, 1) := by decide +kernel
theorem dX7_breaks_152 : decode cX7_breaks 152 = .ok (.ireturn, 1) := by decide +kernel
theorem dX7_drop_0 : decode cX7_drop 0 = .ok (.aload_n 0, 1) := by decide +kernel
theorem dX7_drop_1 : decode cX7_drop 1 = .ok (.dup, 1) := by decide +kernel
theorem dX7_drop_2 : decode cX7_drop 2 = .ok (.getfield 75, 3) := by decide +kernel
theorem dX7_drop_5 : decode cX7_drop 5 = .ok (.iconst 1, 1) := by decide +kernel
theorem dX7_drop_6 : decode cX7_drop 6 = .ok (.isub, 1) := by decide +kernel
theorem dX7_drop_7 : decode cX7_drop 7 = .ok (.putfield 75, 3) := by decide +kernel
theorem dX7_drop_10 : decode cX7_drop 10 = .ok (.iload_n 1, 1) := by decide +kernel
theorem dX7_drop_11 : decode cX7_drop 11 = .ok (.istore_n 2, 1) := by decide +kernel
theorem dX7_drop_12 : decode cX7_drop 12 = .ok (.iload_n 2, 1) := by decide +kernel
theorem dX7_drop_13 : decode cX7_drop 13 = .ok (.aload_n 0, 1) := by decide +kernel
theorem dX7_drop_14 : decode cX7_drop 14 = .ok (.getfield 75, 3) := by decide +kernel
theorem dX7_drop_17 : decode cX7_drop 17 = .ok (.if_icmp .ge 79, 3) := by decide +kernel
theorem dX7_drop_20 : decode cX7_drop 20 = .ok (.aload_n 0, 1) := by decide +kernel
theorem dX7_drop_21 : decode cX7_drop 21 = .ok (.getfield 13, 3) := by decide +kernel
theorem dX7_drop_24 : decode cX7_drop 24 = .ok (.iload_n 2, 1) := by decide +kernel
theorem dX7_drop_25 : decode cX7_drop 25 = .ok (.aload_n 0, 1) := by decide +kernel
theorem dX7_drop_26 : decode cX7_drop 26 = .ok (.getfield 13, 3) := by decide +kernel
theorem dX7_drop_29 : decode cX7_drop 29 = .ok (.iload_n 2, 1) := by decide +kernel
theorem dX7_drop_30 : decode cX7_drop 30 = .ok (.iconst 1, 1) := by decide +kernel
theorem dX7_drop_31 : decode cX7_drop 31 = .ok (.iadd, 1) := by decide +kernel
theorem dX7_drop_32 : decode cX7_drop 32 = .ok (.iaload, 1) := by decide +kernel
theorem dX7_drop_33 : decode cX7_drop 33 = .ok (.iastore, 1) := by decide +kernel
theorem dX7_drop_34 : decode cX7_drop 34 = .ok (.aload_n 0, 1) := by decide +kernel
theorem dX7_drop_35 : decode cX7_drop 35 = .ok (.getfield 16, 3) := by decide +kernel
theorem dX7_drop_38 : decode cX7_drop 38 = .ok (.iload_n 2, 1) := by decide +kernel
theorem dX7_drop_39 : decode cX7_drop 39 = .ok (.aload_n 0, 1) := by decide +kernel
theorem dX7_drop_40 : decode cX7_drop 40 = .ok (.getfield 16, 3) := by decide +kernel
theorem dX7_drop_43 : decode cX7_drop 43 = .ok (.iload_n 2, 1) := by decide +kernel
theorem dX7_drop_44 : decode cX7_drop 44 = .ok (.iconst 1, 1) := by decide +kernel
theorem dX7_drop_45 : decode cX7_drop 45 = .ok (.iadd, 1) := by decide +kernel
theorem dX7_drop_46 : decode cX7_drop 46 = .ok (.iaload, 1) := by decide +kernel
theorem dX7_drop_47 : decode cX7_drop 47 = .ok (.iastore, 1) := by decide +kernel
theorem dX7_drop_48 : decode cX7_drop 48 = .ok (.aload_n 0, 1) := by decide +kernel
theorem dX7_drop_49 : decode cX7_drop 49 = .ok (.getfield 19, 3) := by decide +kernel
theorem dX7_drop_52 : decode cX7_drop 52 = .ok (.iload_n 2, 1) := by decide +kernel
theorem dX7_drop_53 : decode cX7_drop 53 = .ok (.aload_n 0, 1) := by decide +kernel
theorem dX7_drop_54 : decode cX7_drop 54 = .ok (.getfield 19, 3) := by decide +kernel
theorem dX7_drop_57 : decode cX7_drop 57 = .ok (.iload_n 2, 1) := by decide +kernel
theorem dX7_drop_58 : decode cX7_drop 58 = .ok (.iconst 1, 1) := by decide +kernel
theorem dX7_drop_59 : decode cX7_drop 59 = .ok (.iadd, 1) := by decide +kernel
theorem dX7_drop_60 : decode cX7_drop 60 = .ok (.iaload, 1) := by decide +kernel
theorem dX7_drop_61 : decode cX7_drop 61 = .ok (.iastore, 1) := by decide +kernel
theorem dX7_drop_62 : decode cX7_drop 62 = .ok (.aload_n 0, 1) := by decide +kernel
theorem dX7_drop_63 : decode cX7_drop 63 = .ok (.getfield 22, 3) := by decide +kernel
theorem dX7_drop_66 : decode cX7_drop 66 = .ok (.iload_n 2, 1) := by decide +kernel
theorem dX7_drop_67 : decode cX7_drop 67 = .ok (.aload_n 0, 1) := by decide +kernel
theorem dX7_drop_68 : decode cX7_drop 68 = .ok (.getfield 22, 3) := by decide +kernel
theorem dX7_drop_71 : decode cX7_drop 71 = .ok (.iload_n 2, 1) := by decide +kernel
theorem dX7_drop_72 : decode cX7_drop 72 = .ok (.iconst 1, 1) := by decide +kernel
theorem dX7_drop_73 : decode cX7_drop 73 = .ok (.iadd, 1) := by decide +kernel
theorem dX7_drop_74 : decode cX7_drop 74 = .ok (.iaload, 1) := by decide +kernel
theorem dX7_drop_75 : decode cX7_drop 75 = .ok (.iastore, 1) := by decide +kernel
theorem dX7_drop_76 : decode cX7_drop 76 = .ok (.aload_n 0, 1) := by decide +kernel
theorem dX7_drop_77 : decode cX7_drop 77 = .ok (.getfield 25, 3) := by decide +kernel
theorem dX7_drop_80 : decode cX7_drop 80 = .ok (.iload_n 2, 1) := by decide +kernel
theorem dX7_drop_81 : decode cX7_drop 81 = .ok (.aload_n 0, 1) := by decide +kernel
theorem dX7_drop_82 : decode cX7_drop 82 = .ok (.getfield 25, 3) := by decide +kernel
theorem dX7_drop_85 : decode cX7_drop 85 = .ok (.iload_n 2, 1) := by decide +kernel
theorem dX7_drop_86 : decode cX7_drop 86 = .ok (.iconst 1, 1) := by decide +kernel
theorem dX7_drop_87 : decode cX7_drop 87 = .ok (.iadd, 1) := by decide +kernel
theorem dX7_drop_88 : decode cX7_drop 88 = .ok (.iaload, 1) := by decide +kernel
theorem dX7_drop_89 : decode cX7_drop 89 = .ok (.iastore, 1) := by decide +kernel
theorem dX7_drop_90 : decode cX7_drop 90 = .ok (.iinc 2 1, 3) := by decide +kernel
theorem dX7_drop_93 : decode cX7_drop 93 = .ok (.goto (-81), 3) := by decide +kernel
theorem dX7_drop_96 : decode cX7_drop 96 = .ok (.return_, 1) := by decide +kernel
set_option maxRecDepth 20000 in
theorem ggX7_joins_X7_noRing : GoodIn wsX7_joins wsX7_noRing := goodIn_r _ [7, 8, 9, 10, 6, 11, 31, 32, 33, 34, 35, 36, 37, 38, 39, 40, 41, 42, 43, 44, 45, 46, 47, 48, 49, 50, 51, 52, 53, 54, 55, 56, 57, 58, 59, 60, 61, 62, 63, 64, 65, 66, 67, 68, 69, 70] (by decide +kernel) (by decide +kernel)
set_option maxRecDepth 20000 in
theorem gX7_joins_X7_noRing : GoodIn wsX7_joins (wsV RX7 201 RX7 yX7_noRing wsX7_noRing) := goodIn_app (goodIn_of _ (by decide +kernel)) ggX7_joins_X7_noRing
set_option maxRecDepth 20000 in
theorem ggX7_joins_X7_note : GoodIn wsX7_joins wsX7_note := goodIn_r _ [15, 16, 17, 18, 19, 20, 6, 21, 22, 23, 2, 24, 25, 8, 26, 31, 32, 33, 34, 35, 36, 37, 38, 39, 40, 41, 42, 43, 44, 45, 46, 47, 48, 49, 50, 51, 52, 53, 54, 55, 56, 57, 58, 59, 60, 61, 62, 63, 64, 65, 66, 67, 68, 69, 70] (by decide +kernel) (by decide +kernel)
set_option maxRecDepth 20000 in
theorem gX7_joins_X7_note : GoodIn wsX7_joins (wsV RX7 210 RX7 yX7_note wsX7_note) := goodIn_app (goodIn_of _ (by decide +kernel)) ggX7_joins_X7_note
set_option maxRecDepth 20000 in
theorem ggX7_joins_X7_drop : GoodIn wsX7_joins wsX7_drop := goodIn_r _ [30, 8, 22, 23, 2, 24, 25, 31, 32, 33, 34, 35, 36, 37, 38, 39, 40, 41, 42, 43, 44, 45, 46, 47, 48, 49, 50, 51, 52, 53, 54, 55, 56, 57, 58, 59, 60, 61, 62, 63, 64, 65, 66, 67, 68, 69, 70] (by decide +kernel) (by decide +kernel)
set_option maxRecDepth 20000 in
theorem gX7_joins_X7_drop : GoodIn wsX7_joins (wsV RX7 222 RX7 yX7_drop wsX7_drop) := goodIn_app (goodIn_of _ (by decide +kernel)) ggX7_joins_X7_drop
theorem dX7_joins_0 : decode cX7_joins 0 = .ok (.aload_n 0, 1) := by decide +kernel
theorem dX7_joins_1 : decode cX7_joins 1 = .ok (.iconst 0, 1) := by decide +kernel
theorem dX7_joins_2 : decode cX7_joins 2 = .ok (.putfield 71, 3) := by decide +kernel
theorem dX7_joins_5 : decode cX7_joins 5 = .ok (.aload_n 0, 1) := by decide +kernel
theorem dX7_joins_6 : decode cX7_joins 6 = .ok (.iload_n 1, 1) := by decide +kernel
theorem dX7_joins_7 : decode cX7_joins 7 = .ok (.invokevirtual 201, 3) := by decide +kernel
theorem dX7_joins_10 : decode cX7_joins 10 = .ok (.ifCond .ne 11, 3) := by decide +kernel
theorem dX7_joins_13 : decode cX7_joins 13 = .ok (.aload_n 0, 1) := by decide +kernel
theorem dX7_joins_14 : decode cX7_joins 14 = .ok (.iload_n 2, 1) := by decide +kernel
theorem dX7_joins_15 : decode cX7_joins 15 = .ok (.invokevirtual 201, 3) := by decide +kernel
theorem dX7_joins_18 : decode cX7_joins 18 = .ok (.ifCond .eq 5, 3) := by decide +kernel
theorem dX7_joins_21 : decode cX7_joins 21 = .ok (.iconst (-1), 1) := by decide +kernel
theorem dX7_joins_22 : decode cX7_joins 22 = .ok (.ireturn, 1) := by decide +kernel
theorem dX7_joins_23 : decode cX7_joins 23 = .ok (.iload_n 1, 1) := by decide +kernel
theorem dX7_joins_24 : decode cX7_joins 24 = .ok (.iload_n 2, 1) := by decide +kernel
theorem dX7_joins_25 : decode cX7_joins 25 = .ok (.if_icmp .ne 6, 3) := by decide +kernel
theorem dX7_joins_28 : decode cX7_joins 28 = .ok (.bipush (-2), 2) := by decide +kernel
theorem dX7_joins_30 : decode cX7_joins 30 = .ok (.ireturn, 1) := by decide +kernel
theorem dX7_joins_31 : decode cX7_joins 31 = .ok (.aload_n 0, 1) := by decide +kernel
theorem dX7_joins_32 : decode cX7_joins 32 = .ok (.getfield 19, 3) := by decide +kernel
theorem dX7_joins_35 : decode cX7_joins 35 = .ok (.iload_n 1, 1) := by decide +kernel
theorem dX7_joins_36 : decode cX7_joins 36 = .ok (.iaload, 1) := by decide +kernel
theorem dX7_joins_37 : decode cX7_joins 37 = .ok (.aload_n 0, 1) := by decide +kernel
theorem dX7_joins_38 : decode cX7_joins 38 = .ok (.getfield 19, 3) := by decide +kernel
theorem dX7_joins_41 : decode cX7_joins 41 = .ok (.iload_n 2, 1) := by decide +kernel
theorem dX7_joins_42 : decode cX7_joins 42 = .ok (.iaload, 1) := by decide +kernel
theorem dX7_joins_43 : decode cX7_joins 43 = .ok (.iadd, 1) := by decide +kernel
theorem dX7_joins_44 : decode cX7_joins 44 = .ok (.istore_n 3, 1) := by decide +kernel
theorem dX7_joins_45 : decode cX7_joins 45 = .ok (.iload_n 3, 1) := by decide +kernel
theorem dX7_joins_46 : decode cX7_joins 46 = .ok (.bipush 9, 2) := by decide +kernel
theorem dX7_joins_48 : decode cX7_joins 48 = .ok (.if_icmp .le 6, 3) := by decide +kernel
theorem dX7_joins_51 : decode cX7_joins 51 = .ok (.bipush (-4), 2) := by decide +kernel
theorem dX7_joins_53 : decode cX7_joins 53 = .ok (.ireturn, 1) := by decide +kernel
theorem dX7_joins_54 : decode cX7_joins 54 = .ok (.aload_n 0, 1) := by decide +kernel
theorem dX7_joins_55 : decode cX7_joins 55 = .ok (.invokevirtual 210, 3) := by decide +kernel
theorem dX7_joins_58 : decode cX7_joins 58 = .ok (.aload_n 0, 1) := by decide +kernel
theorem dX7_joins_59 : decode cX7_joins 59 = .ok (.getfield 19, 3) := by decide +kernel
theorem dX7_joins_62 : decode cX7_joins 62 = .ok (.iload_n 1, 1) := by decide +kernel
theorem dX7_joins_63 : decode cX7_joins 63 = .ok (.iload_n 3, 1) := by decide +kernel
theorem dX7_joins_64 : decode cX7_joins 64 = .ok (.iastore, 1) := by decide +kernel
theorem dX7_joins_65 : decode cX7_joins 65 = .ok (.aload_n 0, 1) := by decide +kernel
theorem dX7_joins_66 : decode cX7_joins 66 = .ok (.iload_n 2, 1) := by decide +kernel
theorem dX7_joins_67 : decode cX7_joins 67 = .ok (.invokevirtual 222, 3) := by decide +kernel
theorem dX7_joins_70 : decode cX7_joins 70 = .ok (.iload_n 3, 1) := by decide +kernel
theorem dX7_joins_71 : decode cX7_joins 71 = .ok (.ireturn, 1) := by decide +kernel
set_option maxRecDepth 20000 in
theorem ggX7_home_X7_noRing : GoodIn wsX7_home wsX7_noRing := goodIn_r _ [7, 2, 8, 9, 6, 10, 31, 32, 33, 34, 35, 36, 37, 38, 39, 40, 41, 42, 43, 44, 45, 46, 47, 48, 49, 50, 51, 52, 53, 54, 55, 56, 57, 58, 59, 60, 61, 62, 63, 64, 65, 66, 67, 68, 69, 70] (by decide +kernel) (by decide +kernel)
set_option maxRecDepth 20000 in
theorem gX7_home_X7_noRing : GoodIn wsX7_home (wsV RX7 201 RX7 yX7_noRing wsX7_noRing) := goodIn_app (goodIn_of _ (by decide +kernel)) ggX7_home_X7_noRing
set_option maxRecDepth 20000 in
theorem ggX7_home_X7_note : GoodIn wsX7_home wsX7_note := goodIn_r _ [14, 15, 16, 17, 18, 19, 6, 20, 21, 22, 23, 24, 25, 2, 26, 31, 32, 33, 34, 35, 36, 37, 38, 39, 40, 41, 42, 43, 44, 45, 46, 47, 48, 49, 50, 51, 52, 53, 54, 55, 56, 57, 58, 59, 60, 61, 62, 63, 64, 65, 66, 67, 68, 69, 70] (by decide +kernel) (by decide +kernel)
set_option maxRecDepth 20000 in
theorem gX7_home_X7_note : GoodIn wsX7_home (wsV RX7 210 RX7 yX7_note wsX7_note) := goodIn_app (goodIn_of _ (by decide +kernel)) ggX7_home_X7_note
set_option maxRecDepth 20000 in
theorem ggX7_home_X7_drop : GoodIn wsX7_home wsX7_drop := goodIn_r _ [30, 2, 21, 22, 23, 24, 25, 31, 32, 33, 34, 35, 36, 37, 38, 39, 40, 41, 42, 43, 44, 45, 46, 47, 48, 49, 50, 51, 52, 53, 54, 55, 56, 57, 58, 59, 60, 61, 62, 63, 64, 65, 66, 67, 68, 69, 70] (by decide +kernel) (by decide +kernel)
set_option maxRecDepth 20000 in
theorem gX7_home_X7_drop : GoodIn wsX7_home (wsV RX7 222 RX7 yX7_drop wsX7_drop) := goodIn_app (goodIn_of _ (by decide +kernel)) ggX7_home_X7_drop
theorem dX7_home_0 : decode cX7_home 0 = .ok (.aload_n 0, 1) := by decide +kernel
theorem dX7_home_1 : decode cX7_home 1 = .ok (.iconst 0, 1) := by decide +kernel
theorem dX7_home_2 : decode cX7_home 2 = .ok (.putfield 71, 3) := by decide +kernel
theorem dX7_home_5 : decode cX7_home 5 = .ok (.aload_n 0, 1) := by decide +kernel
theorem dX7_home_6 : decode cX7_home 6 = .ok (.iload_n 1, 1) := by decide +kernel
theorem dX7_home_7 : decode cX7_home 7 = .ok (.invokevirtual 201, 3) := by decide +kernel
theorem dX7_home_10 : decode cX7_home 10 = .ok (.ifCond .eq 5, 3) := by decide +kernel
theorem dX7_home_13 : decode cX7_home 13 = .ok (.iconst (-1), 1) := by decide +kernel
theorem dX7_home_14 : decode cX7_home 14 = .ok (.ireturn, 1) := by decide +kernel
theorem dX7_home_15 : decode cX7_home 15 = .ok (.aload_n 0, 1) := by decide +kernel
theorem dX7_home_16 : decode cX7_home 16 = .ok (.invokevirtual 210, 3) := by decide +kernel
theorem dX7_home_19 : decode cX7_home 19 = .ok (.aload_n 0, 1) := by decide +kernel
theorem dX7_home_20 : decode cX7_home 20 = .ok (.iload_n 1, 1) := by decide +kernel
theorem dX7_home_21 : decode cX7_home 21 = .ok (.invokevirtual 222, 3) := by decide +kernel
theorem dX7_home_24 : decode cX7_home 24 = .ok (.aload_n 0, 1) := by decide +kernel
theorem dX7_home_25 : decode cX7_home 25 = .ok (.getfield 75, 3) := by decide +kernel
theorem dX7_home_28 : decode cX7_home 28 = .ok (.ireturn, 1) := by decide +kernel
set_option maxRecDepth 20000 in
theorem ggX7_hush_X7_note : GoodIn wsX7_hush wsX7_note := goodIn_r _ [8, 9, 10, 11, 12, 13, 7, 14, 15, 16, 17, 3, 18, 2, 19, 20, 21, 22, 23, 24, 25, 26, 27, 28, 29, 30, 31, 32, 33, 34, 35, 36, 37, 38, 39, 40, 41, 42, 43, 44, 45, 46, 47, 48, 49, 50, 51, 52, 53, 54, 55, 56, 57, 58, 59] (by decide +kernel) (by decide +kernel)
set_option maxRecDepth 20000 in
theorem gX7_hush_X7_note : GoodIn wsX7_hush (wsV RX7 210 RX7 yX7_note wsX7_note) := goodIn_app (goodIn_of _ (by decide +kernel)) ggX7_hush_X7_note
theorem dX7_hush_0 : decode cX7_hush 0 = .ok (.aload_n 0, 1) := by decide +kernel
theorem dX7_hush_1 : decode cX7_hush 1 = .ok (.iconst 0, 1) := by decide +kernel
theorem dX7_hush_2 : decode cX7_hush 2 = .ok (.putfield 71, 3) := by decide +kernel
theorem dX7_hush_5 : decode cX7_hush 5 = .ok (.aload_n 0, 1) := by decide +kernel
theorem dX7_hush_6 : decode cX7_hush 6 = .ok (.invokevirtual 210, 3) := by decide +kernel
theorem dX7_hush_9 : decode cX7_hush 9 = .ok (.iconst 0, 1) := by decide +kernel
theorem dX7_hush_10 : decode cX7_hush 10 = .ok (.istore_n 1, 1) := by decide +kernel
theorem dX7_hush_11 : decode cX7_hush 11 = .ok (.iconst 0, 1) := by decide +kernel
theorem dX7_hush_12 : decode cX7_hush 12 = .ok (.istore_n 2, 1) := by decide +kernel
theorem dX7_hush_13 : decode cX7_hush 13 = .ok (.iload_n 2, 1) := by decide +kernel
theorem dX7_hush_14 : decode cX7_hush 14 = .ok (.aload_n 0, 1) := by decide +kernel
theorem dX7_hush_15 : decode cX7_hush 15 = .ok (.getfield 75, 3) := by decide +kernel
theorem dX7_hush_18 : decode cX7_hush 18 = .ok (.if_icmp .ge 34, 3) := by decide +kernel
theorem dX7_hush_21 : decode cX7_hush 21 = .ok (.iload_n 1, 1) := by decide +kernel
theorem dX7_hush_22 : decode cX7_hush 22 = .ok (.aload_n 0, 1) := by decide +kernel
theorem dX7_hush_23 : decode cX7_hush 23 = .ok (.getfield 22, 3) := by decide +kernel
theorem dX7_hush_26 : decode cX7_hush 26 = .ok (.iload_n 2, 1) := by decide +kernel
theorem dX7_hush_27 : decode cX7_hush 27 = .ok (.iaload, 1) := by decide +kernel
theorem dX7_hush_28 : decode cX7_hush 28 = .ok (.iconst 1, 1) := by decide +kernel
theorem dX7_hush_29 : decode cX7_hush 29 = .ok (.if_icmp .ne 7, 3) := by decide +kernel
theorem dX7_hush_32 : decode cX7_hush 32 = .ok (.iconst 0, 1) := by decide +kernel
theorem dX7_hush_33 : decode cX7_hush 33 = .ok (.goto 4, 3) := by decide +kernel
theorem dX7_hush_36 : decode cX7_hush 36 = .ok (.iconst 1, 1) := by decide +kernel
theorem dX7_hush_37 : decode cX7_hush 37 = .ok (.iadd, 1) := by decide +kernel
theorem dX7_hush_38 : decode cX7_hush 38 = .ok (.istore_n 1, 1) := by decide +kernel
theorem dX7_hush_39 : decode cX7_hush 39 = .ok (.aload_n 0, 1) := by decide +kernel
theorem dX7_hush_40 : decode cX7_hush 40 = .ok (.getfield 22, 3) := by decide +kernel
theorem dX7_hush_43 : decode cX7_hush 43 = .ok (.iload_n 2, 1) := by decide +kernel
theorem dX7_hush_44 : decode cX7_hush 44 = .ok (.iconst 1, 1) := by decide +kernel
theorem dX7_hush_45 : decode cX7_hush 45 = .ok (.iastore, 1) := by decide +kernel
theorem dX7_hush_46 : decode cX7_hush 46 = .ok (.iinc 2 1, 3) := by decide +kernel
theorem dX7_hush_49 : decode cX7_hush 49 = .ok (.goto (-36), 3) := by decide +kernel
theorem dX7_hush_52 : decode cX7_hush 52 = .ok (.iload_n 1, 1) := by decide +kernel
theorem dX7_hush_53 : decode cX7_hush 53 = .ok (.ireturn, 1) := by decide +kernel
set_option maxRecDepth 20000 in
theorem ggX7_undo_X7_takePage : GoodIn wsX7_undo wsX7_takePage := goodIn_r _ [8, 9, 10, 11, 12, 13, 14, 15, 16, 17, 18, 19, 20, 21, 22, 23, 24, 25, 26, 27, 28, 29, 30, 31, 32, 33, 34, 35, 36, 37, 38, 39, 40, 41, 42, 43, 44, 45, 46, 47, 48, 49, 50, 51, 52, 53, 54, 55] (by decide +kernel) (by decide +kernel)
set_option maxRecDepth 20000 in
theorem gX7_undo_X7_takePage : GoodIn wsX7_undo (wsV RX7 226 RX7 yX7_takePage wsX7_takePage) := goodIn_app (goodIn_of _ (by decide +kernel)) ggX7_undo_X7_takePage
theorem dX7_undo_0 : decode cX7_undo 0 = .ok (.aload_n 0, 1) := by decide +kernel
theorem dX7_undo_1 : decode cX7_undo 1 = .ok (.iconst 0, 1) := by decide +kernel
theorem dX7_undo_2 : decode cX7_undo 2 = .ok (.putfield 71, 3) := by decide +kernel
theorem dX7_undo_5 : decode cX7_undo 5 = .ok (.aload_n 0, 1) := by decide +kernel
theorem dX7_undo_6 : decode cX7_undo 6 = .ok (.getfield 135, 3) := by decide +kernel
theorem dX7_undo_9 : decode cX7_undo 9 = .ok (.ifCond .ne 6, 3) := by decide +kernel
theorem dX7_undo_12 : decode cX7_undo 12 = .ok (.bipush (-3), 2) := by decide +kernel
theorem dX7_undo_14 : decode cX7_undo 14 = .ok (.ireturn, 1) := by decide +kernel
theorem dX7_undo_15 : decode cX7_undo 15 = .ok (.aload_n 0, 1) := by decide +kernel
theorem dX7_undo_16 : decode cX7_undo 16 = .ok (.dup, 1) := by decide +kernel
theorem dX7_undo_17 : decode cX7_undo 17 = .ok (.getfield 135, 3) := by decide +kernel
theorem dX7_undo_20 : decode cX7_undo 20 = .ok (.iconst 1, 1) := by decide +kernel
theorem dX7_undo_21 : decode cX7_undo 21 = .ok (.isub, 1) := by decide +kernel
theorem dX7_undo_22 : decode cX7_undo 22 = .ok (.putfield 135, 3) := by decide +kernel
theorem dX7_undo_25 : decode cX7_undo 25 = .ok (.aload_n 0, 1) := by decide +kernel
theorem dX7_undo_26 : decode cX7_undo 26 = .ok (.aload_n 0, 1) := by decide +kernel
theorem dX7_undo_27 : decode cX7_undo 27 = .ok (.getfield 40, 3) := by decide +kernel
theorem dX7_undo_30 : decode cX7_undo 30 = .ok (.bipush 42, 2) := by decide +kernel
theorem dX7_undo_32 : decode cX7_undo 32 = .ok (.aload_n 0, 1) := by decide +kernel
theorem dX7_undo_33 : decode cX7_undo 33 = .ok (.getfield 135, 3) := by decide +kernel
theorem dX7_undo_36 : decode cX7_undo 36 = .ok (.imul, 1) := by decide +kernel
theorem dX7_undo_37 : decode cX7_undo 37 = .ok (.invokevirtual 226, 3) := by decide +kernel
theorem dX7_undo_40 : decode cX7_undo 40 = .ok (.aload_n 0, 1) := by decide +kernel
theorem dX7_undo_41 : decode cX7_undo 41 = .ok (.getfield 135, 3) := by decide +kernel
theorem dX7_undo_44 : decode cX7_undo 44 = .ok (.ireturn, 1) := by decide +kernel
theorem dX7_allBy_0 : decode cX7_allBy 0 = .ok (.iconst 0, 1) := by decide +kernel
theorem dX7_allBy_1 : decode cX7_allBy 1 = .ok (.istore_n 2, 1) := by decide +kernel
theorem dX7_allBy_2 : decode cX7_allBy 2 = .ok (.iload_n 2, 1) := by decide +kernel
theorem dX7_allBy_3 : decode cX7_allBy 3 = .ok (.aload_n 0, 1) := by decide +kernel
theorem dX7_allBy_4 : decode cX7_allBy 4 = .ok (.getfield 75, 3) := by decide +kernel
theorem dX7_allBy_7 : decode cX7_allBy 7 = .ok (.if_icmp .ge 16, 3) := by decide +kernel
theorem dX7_allBy_10 : decode cX7_allBy 10 = .ok (.aload_n 0, 1) := by decide +kernel
theorem dX7_allBy_11 : decode cX7_allBy 11 = .ok (.getfield 56, 3) := by decide +kernel
theorem dX7_allBy_14 : decode cX7_allBy 14 = .ok (.iload_n 2, 1) := by decide +kernel
theorem dX7_allBy_15 : decode cX7_allBy 15 = .ok (.iload_n 1, 1) := by decide +kernel
theorem dX7_allBy_16 : decode cX7_allBy 16 = .ok (.iastore, 1) := by decide +kernel
theorem dX7_allBy_17 : decode cX7_allBy 17 = .ok (.iinc 2 1, 3) := by decide +kernel
theorem dX7_allBy_20 : decode cX7_allBy 20 = .ok (.goto (-18), 3) := by decide +kernel
theorem dX7_allBy_23 : decode cX7_allBy 23 = .ok (.return_, 1) := by decide +kernel
set_option maxRecDepth 20000 in
theorem ggX7_goRest_X7_go : GoodIn wsX7_goRest wsX7_go := goodIn_r _ [5, 6, 7, 8, 9, 10, 11, 12, 4, 13, 14, 15, 16, 17, 18, 19, 20, 21, 22, 23, 24, 25, 26, 27, 28, 29, 30, 31, 32, 33, 34, 35, 36, 37, 38, 39, 40, 41, 42, 43, 44, 45, 46, 47, 48, 49, 50, 51, 52, 53, 54, 55, 56, 57, 58, 59, 60, 61, 62, 63, 64, 65, 66, 67, 68, 69, 70, 71, 72, 73, 74, 75, 76, 77, 78, 79, 80, 81, 82, 83, 84, 85, 86, 87, 88, 89, 90, 91, 92, 93, 94, 95, 96, 97, 98, 99, 100, 101, 102] (by decide +kernel) (by decide +kernel)
set_option maxRecDepth 20000 in
theorem gX7_goRest_X7_go : GoodIn wsX7_goRest (wsV RX7 213 RX7 yX7_go wsX7_go) := goodIn_app (goodIn_of _ (by decide +kernel)) ggX7_goRest_X7_go
theorem dX7_goRest_0 : decode cX7_goRest 0 = .ok (.iconst 0, 1) := by decide +kernel
theorem dX7_goRest_1 : decode cX7_goRest 1 = .ok (.istore_n 1, 1) := by decide +kernel
theorem dX7_goRest_2 : decode cX7_goRest 2 = .ok (.iload_n 1, 1) := by decide +kernel
theorem dX7_goRest_3 : decode cX7_goRest 3 = .ok (.bipush 40, 2) := by decide +kernel
theorem dX7_goRest_5 : decode cX7_goRest 5 = .ok (.if_icmp .gt 18, 3) := by decide +kernel
theorem dX7_goRest_8 : decode cX7_goRest 8 = .ok (.aload_n 0, 1) := by decide +kernel
theorem dX7_goRest_9 : decode cX7_goRest 9 = .ok (.invokevirtual 213, 3) := by decide +kernel
theorem dX7_goRest_12 : decode cX7_goRest 12 = .ok (.ifCond .ne 5, 3) := by decide +kernel
theorem dX7_goRest_15 : decode cX7_goRest 15 = .ok (.iload_n 1, 1) := by decide +kernel
theorem dX7_goRest_16 : decode cX7_goRest 16 = .ok (.ireturn, 1) := by decide +kernel
theorem dX7_goRest_17 : decode cX7_goRest 17 = .ok (.iinc 1 1, 3) := by decide +kernel
theorem dX7_goRest_20 : decode cX7_goRest 20 = .ok (.goto (-18), 3) := by decide +kernel
theorem dX7_goRest_23 : decode cX7_goRest 23 = .ok (.bipush (-9), 2) := by decide +kernel
theorem dX7_goRest_25 : decode cX7_goRest 25 = .ok (.ireturn, 1) := by decide +kernel
set_option maxRecDepth 20000 in
theorem ggX7_rest_X7_in : GoodIn wsX7_rest wsX7_in := goodIn_r _ [6] (by decide +kernel) (by decide +kernel)
set_option maxRecDepth 20000 in
theorem gX7_rest_X7_in : GoodIn wsX7_rest (va_wsS RX7 78 yX7_in wsX7_in) := goodIn_app (goodIn_of _ (by decide +kernel)) ggX7_rest_X7_in
set_option maxRecDepth 20000 in
theorem ggX7_rest_X7_begin : GoodIn wsX7_rest wsX7_begin := goodIn_r _ [10, 11, 12, 13, 14, 15, 16, 17, 18, 19, 20, 21, 85, 86, 87, 88, 89, 90, 91, 92, 93, 94, 95, 96, 97, 98, 99, 100, 101, 102, 103, 104, 105, 106, 107, 108, 109, 110, 111, 112, 113, 114, 115, 116, 117, 118, 119, 120, 121, 122, 123, 124] (by decide +kernel) (by decide +kernel)
set_option maxRecDepth 20000 in
theorem gX7_rest_X7_begin : GoodIn wsX7_rest (wsV RX7 195 RX7 yX7_begin wsX7_begin) := goodIn_app (goodIn_of _ (by decide +kernel)) ggX7_rest_X7_begin
set_option maxRecDepth 20000 in
theorem ggX7_rest_X7_allBy : GoodIn wsX7_rest wsX7_allBy := goodIn_r _ [25, 11, 12, 85, 86, 87, 88, 89, 90, 91, 92, 93, 94, 95, 96, 97, 98, 99, 100, 101, 102, 103, 104, 105, 106, 107, 108, 109, 110, 111, 112, 113, 114, 115, 116, 117, 118, 119, 120, 121, 122, 123, 124] (by decide +kernel) (by decide +kernel)
set_option maxRecDepth 20000 in
theorem gX7_rest_X7_allBy : GoodIn wsX7_rest (wsV RX7 231 RX7 yX7_allBy wsX7_allBy) := goodIn_app (goodIn_of _ (by decide +kernel)) ggX7_rest_X7_allBy
set_option maxRecDepth 20000 in
theorem ggX7_rest_X7_goRest : GoodIn wsX7_rest wsX7_goRest := goodIn_r _ [29, 30, 31, 32, 5, 33, 16, 34, 12, 15, 35, 36, 37, 38, 21, 39, 40, 41, 42, 18, 43, 44, 45, 46, 47, 48, 49, 50, 51, 19, 52, 53, 54, 55, 56, 57, 58, 59, 60, 61, 62, 63, 64, 65, 66, 67, 68, 69, 70, 71, 72, 73, 74, 75, 76, 77, 78, 79, 80, 81, 82, 83, 84, 85, 86, 87, 88, 89, 90, 91, 92, 93, 94, 95, 96, 97, 98, 99, 100, 101, 102, 103, 104, 105, 106, 107, 108, 109, 110, 111, 112, 113, 114, 115, 116, 117, 118, 119, 120, 121, 122, 123, 124] (by decide +kernel) (by decide +kernel)
set_option maxRecDepth 20000 in
theorem gX7_rest_X7_goRest : GoodIn wsX7_rest (wsV RX7 234 RX7 yX7_goRest wsX7_goRest) := goodIn_app (goodIn_of _ (by decide +kernel)) ggX7_rest_X7_goRest
set_option maxRecDepth 20000 in
theorem ggX7_rest_X7_loudAll : GoodIn wsX7_rest wsX7_loudAll := goodIn_r _ [46, 16, 47, 48, 49, 5, 50, 51, 19, 12, 52, 53, 54, 85, 86, 87, 88, 89, 90, 91, 92, 93, 94, 95, 96, 97, 98, 99, 100, 101, 102, 103, 104, 105, 106, 107, 108, 109, 110, 111, 112, 113, 114, 115, 116, 117, 118, 119, 120, 121, 122, 123, 124] (by decide +kernel) (by decide +kernel)
set_option maxRecDepth 20000 in
theorem gX7_rest_X7_loudAll : GoodIn wsX7_rest (wsV RX7 161 RX7 yX7_loudAll wsX7_loudAll) := goodIn_app (goodIn_of _ (by decide +kernel)) ggX7_rest_X7_loudAll
theorem dX7_rest_0 : decode cX7_rest 0 = .ok (.aload_n 0, 1) := by decide +kernel
theorem dX7_rest_1 : decode cX7_rest 1 = .ok (.iconst 0, 1) := by decide +kernel
theorem dX7_rest_2 : decode cX7_rest 2 = .ok (.putfield 71, 3) := by decide +kernel
theorem dX7_rest_5 : decode cX7_rest 5 = .ok (.iload_n 1, 1) := by decide +kernel
theorem dX7_rest_6 : decode cX7_rest 6 = .ok (.i2l, 1) := by decide +kernel
theorem dX7_rest_7 : decode cX7_rest 7 = .ok (.lconst 0, 1) := by decide +kernel
theorem dX7_rest_8 : decode cX7_rest 8 = .ok (.ldc2_w 229, 3) := by decide +kernel
theorem dX7_rest_11 : decode cX7_rest 11 = .ok (.invokestatic 78, 3) := by decide +kernel
theorem dX7_rest_14 : decode cX7_rest 14 = .ok (.ifCond .ne 6, 3) := by decide +kernel
theorem dX7_rest_17 : decode cX7_rest 17 = .ok (.bipush (-2), 2) := by decide +kernel
theorem dX7_rest_19 : decode cX7_rest 19 = .ok (.ireturn, 1) := by decide +kernel
theorem dX7_rest_20 : decode cX7_rest 20 = .ok (.aload_n 0, 1) := by decide +kernel
theorem dX7_rest_21 : decode cX7_rest 21 = .ok (.invokevirtual 195, 3) := by decide +kernel
theorem dX7_rest_24 : decode cX7_rest 24 = .ok (.iload_n 1, 1) := by decide +kernel
theorem dX7_rest_25 : decode cX7_rest 25 = .ok (.ifCond .le 18, 3) := by decide +kernel
theorem dX7_rest_28 : decode cX7_rest 28 = .ok (.aload_n 0, 1) := by decide +kernel
theorem dX7_rest_29 : decode cX7_rest 29 = .ok (.iload_n 1, 1) := by decide +kernel
theorem dX7_rest_30 : decode cX7_rest 30 = .ok (.iconst 1, 1) := by decide +kernel
theorem dX7_rest_31 : decode cX7_rest 31 = .ok (.if_icmp .ne 7, 3) := by decide +kernel
theorem dX7_rest_34 : decode cX7_rest 34 = .ok (.iconst 1, 1) := by decide +kernel
theorem dX7_rest_35 : decode cX7_rest 35 = .ok (.goto 5, 3) := by decide +kernel
theorem dX7_rest_38 : decode cX7_rest 38 = .ok (.bipush 9, 2) := by decide +kernel
theorem dX7_rest_40 : decode cX7_rest 40 = .ok (.invokevirtual 231, 3) := by decide +kernel
theorem dX7_rest_43 : decode cX7_rest 43 = .ok (.aload_n 0, 1) := by decide +kernel
theorem dX7_rest_44 : decode cX7_rest 44 = .ok (.invokevirtual 234, 3) := by decide +kernel
theorem dX7_rest_47 : decode cX7_rest 47 = .ok (.istore_n 3, 1) := by decide +kernel
theorem dX7_rest_48 : decode cX7_rest 48 = .ok (.iload_n 3, 1) := by decide +kernel
theorem dX7_rest_49 : decode cX7_rest 49 = .ok (.bipush (-9), 2) := by decide +kernel
theorem dX7_rest_51 : decode cX7_rest 51 = .ok (.if_icmp .eq 7, 3) := by decide +kernel
theorem dX7_rest_54 : decode cX7_rest 54 = .ok (.iload_n 2, 1) := by decide +kernel
theorem dX7_rest_55 : decode cX7_rest 55 = .ok (.ifCond .eq 7, 3) := by decide +kernel
theorem dX7_rest_58 : decode cX7_rest 58 = .ok (.iload_n 3, 1) := by decide +kernel
theorem dX7_rest_59 : decode cX7_rest 59 = .ok (.goto 7, 3) := by decide +kernel
theorem dX7_rest_62 : decode cX7_rest 62 = .ok (.aload_n 0, 1) := by decide +kernel
theorem dX7_rest_63 : decode cX7_rest 63 = .ok (.invokevirtual 161, 3) := by decide +kernel
theorem dX7_rest_66 : decode cX7_rest 66 = .ok (.ireturn, 1) := by decide +kernel
set_option maxRecDepth 20000 in
theorem ggX7_tooMany_X7_begin : GoodIn wsX7_tooMany wsX7_begin := goodIn_r _ [8, 2, 9, 10, 11, 12, 3, 13, 14, 15, 16, 17, 89, 90, 91, 92, 93, 94, 95, 96, 97, 98, 99, 100, 101, 102, 103, 104, 105, 106, 107, 108, 109, 110, 111, 112, 113, 114, 115, 116, 117, 118, 119, 120, 121, 122, 123, 124, 125, 126, 127, 128] (by decide +kernel) (by decide +kernel)
set_option maxRecDepth 20000 in
theorem gX7_tooMany_X7_begin : GoodIn wsX7_tooMany (wsV RX7 195 RX7 yX7_begin wsX7_begin) := goodIn_app (goodIn_of _ (by decide +kernel)) ggX7_tooMany_X7_begin
set_option maxRecDepth 20000 in
theorem ggX7_tooMany_X7_allBy : GoodIn wsX7_tooMany wsX7_allBy := goodIn_r _ [21, 2, 9, 89, 90, 91, 92, 93, 94, 95, 96, 97, 98, 99, 100, 101, 102, 103, 104, 105, 106, 107, 108, 109, 110, 111, 112, 113, 114, 115, 116, 117, 118, 119, 120, 121, 122, 123, 124, 125, 126, 127, 128] (by decide +kernel) (by decide +kernel)
set_option maxRecDepth 20000 in
theorem gX7_tooMany_X7_allBy : GoodIn wsX7_tooMany (wsV RX7 231 RX7 yX7_allBy wsX7_allBy) := goodIn_app (goodIn_of _ (by decide +kernel)) ggX7_tooMany_X7_allBy
set_option maxRecDepth 20000 in
theorem ggX7_tooMany_X7_goRest : GoodIn wsX7_tooMany wsX7_goRest := goodIn_r _ [25, 26, 27, 28, 7, 29, 3, 30, 9, 12, 31, 32, 33, 34, 17, 35, 36, 37, 38, 14, 39, 40, 41, 42, 43, 44, 45, 46, 47, 15, 48, 49, 50, 51, 52, 53, 54, 55, 56, 57, 58, 59, 60, 61, 62, 63, 64, 65, 66, 67, 68, 69, 70, 71, 72, 73, 74, 75, 76, 77, 78, 79, 80, 89, 90, 91, 92, 93, 94, 95, 96, 97, 98, 99, 100, 101, 102, 103, 104, 105, 106, 107, 108, 109, 110, 111, 112, 113, 114, 115, 116, 117, 118, 119, 120, 121, 122, 123, 124, 125, 126, 127, 128] (by decide +kernel) (by decide +kernel)
set_option maxRecDepth 20000 in
theorem gX7_tooMany_X7_goRest : GoodIn wsX7_tooMany (wsV RX7 234 RX7 yX7_goRest wsX7_goRest) := goodIn_app (goodIn_of _ (by decide +kernel)) ggX7_tooMany_X7_goRest
set_option maxRecDepth 20000 in
theorem ggX7_tooMany_X7_allHear : GoodIn wsX7_tooMany wsX7_allHear := goodIn_r _ [84, 3, 85, 86, 87, 7, 88, 60, 43, 44, 45, 46, 47, 15, 9, 48, 49, 50, 72, 73, 74, 75, 59, 61, 62, 63, 64, 35, 36, 37, 38, 14, 39, 40, 41, 42, 51, 52, 53, 54, 12, 65, 66, 67, 68, 69, 70, 71, 76, 77, 78, 79, 80, 89, 90, 91, 92, 93, 94, 95, 96, 97, 98, 99, 100, 101, 102, 103, 104, 105, 106, 107, 108, 109, 110, 111, 112, 113, 114, 115, 116, 117, 118, 119, 120, 121, 122, 123, 124, 125, 126, 127, 128] (by decide +kernel) (by decide +kernel)
set_option maxRecDepth 20000 in
theorem gX7_tooMany_X7_allHear : GoodIn wsX7_tooMany (wsV RX7 237 RX7 yX7_allHear wsX7_allHear) := goodIn_app (goodIn_of _ (by decide +kernel)) ggX7_tooMany_X7_allHear
theorem dX7_tooMany_0 : decode cX7_tooMany 0 = .ok (.aload_n 0, 1) := by decide +kernel
theorem dX7_tooMany_1 : decode cX7_tooMany 1 = .ok (.iconst 0, 1) := by decide +kernel
theorem dX7_tooMany_2 : decode cX7_tooMany 2 = .ok (.putfield 71, 3) := by decide +kernel
theorem dX7_tooMany_5 : decode cX7_tooMany 5 = .ok (.iconst 1, 1) := by decide +kernel
theorem dX7_tooMany_6 : decode cX7_tooMany 6 = .ok (.istore_n 1, 1) := by decide +kernel
theorem dX7_tooMany_7 : decode cX7_tooMany 7 = .ok (.iload_n 1, 1) := by decide +kernel
theorem dX7_tooMany_8 : decode cX7_tooMany 8 = .ok (.aload_n 0, 1) := by decide +kernel
theorem dX7_tooMany_9 : decode cX7_tooMany 9 = .ok (.getfield 75, 3) := by decide +kernel
theorem dX7_tooMany_12 : decode cX7_tooMany 12 = .ok (.if_icmp .gt 41, 3) := by decide +kernel
theorem dX7_tooMany_15 : decode cX7_tooMany 15 = .ok (.aload_n 0, 1) := by decide +kernel
theorem dX7_tooMany_16 : decode cX7_tooMany 16 = .ok (.invokevirtual 195, 3) := by decide +kernel
theorem dX7_tooMany_19 : decode cX7_tooMany 19 = .ok (.aload_n 0, 1) := by decide +kernel
theorem dX7_tooMany_20 : decode cX7_tooMany 20 = .ok (.iconst 1, 1) := by decide +kernel
theorem dX7_tooMany_21 : decode cX7_tooMany 21 = .ok (.invokevirtual 231, 3) := by decide +kernel
theorem dX7_tooMany_24 : decode cX7_tooMany 24 = .ok (.aload_n 0, 1) := by decide +kernel
theorem dX7_tooMany_25 : decode cX7_tooMany 25 = .ok (.iload_n 1, 1) := by decide +kernel
theorem dX7_tooMany_26 : decode cX7_tooMany 26 = .ok (.putfield 141, 3) := by decide +kernel
theorem dX7_tooMany_29 : decode cX7_tooMany 29 = .ok (.aload_n 0, 1) := by decide +kernel
theorem dX7_tooMany_30 : decode cX7_tooMany 30 = .ok (.invokevirtual 234, 3) := by decide +kernel
theorem dX7_tooMany_33 : decode cX7_tooMany 33 = .ok (.bipush (-9), 2) := by decide +kernel
theorem dX7_tooMany_35 : decode cX7_tooMany 35 = .ok (.if_icmp .eq 10, 3) := by decide +kernel
theorem dX7_tooMany_38 : decode cX7_tooMany 38 = .ok (.aload_n 0, 1) := by decide +kernel
theorem dX7_tooMany_39 : decode cX7_tooMany 39 = .ok (.invokevirtual 237, 3) := by decide +kernel
theorem dX7_tooMany_42 : decode cX7_tooMany 42 = .ok (.ifCond .ne 5, 3) := by decide +kernel
theorem dX7_tooMany_45 : decode cX7_tooMany 45 = .ok (.iload_n 1, 1) := by decide +kernel
theorem dX7_tooMany_46 : decode cX7_tooMany 46 = .ok (.ireturn, 1) := by decide +kernel
theorem dX7_tooMany_47 : decode cX7_tooMany 47 = .ok (.iinc 1 1, 3) := by decide +kernel
theorem dX7_tooMany_50 : decode cX7_tooMany 50 = .ok (.goto (-43), 3) := by decide +kernel
theorem dX7_tooMany_53 : decode cX7_tooMany 53 = .ok (.bipush (-9), 2) := by decide +kernel
theorem dX7_tooMany_55 : decode cX7_tooMany 55 = .ok (.ireturn, 1) := by decide +kernel
set_option maxRecDepth 20000 in
theorem ggX7_lasts_X7_begin : GoodIn wsX7_lasts wsX7_begin := goodIn_r _ [6, 7, 8, 9, 10, 11, 12, 13, 14, 15, 16, 17, 77, 78, 79, 80, 81, 82, 83, 84, 85, 86, 87, 88, 89, 90, 91, 92, 93, 94, 95, 96, 97, 98, 99, 100, 101, 102, 103, 104, 105, 106, 107, 108, 109, 110, 111, 112, 113, 114, 115, 116] (by decide +kernel) (by decide +kernel)
set_option maxRecDepth 20000 in
theorem gX7_lasts_X7_begin : GoodIn wsX7_lasts (wsV RX7 195 RX7 yX7_begin wsX7_begin) := goodIn_app (goodIn_of _ (by decide +kernel)) ggX7_lasts_X7_begin
set_option maxRecDepth 20000 in
theorem ggX7_lasts_X7_loudAll : GoodIn wsX7_lasts wsX7_loudAll := goodIn_r _ [21, 12, 22, 23, 24, 5, 25, 26, 15, 8, 27, 28, 29, 77, 78, 79, 80, 81, 82, 83, 84, 85, 86, 87, 88, 89, 90, 91, 92, 93, 94, 95, 96, 97, 98, 99, 100, 101, 102, 103, 104, 105, 106, 107, 108, 109, 110, 111, 112, 113, 114, 115, 116] (by decide +kernel) (by decide +kernel)
set_option maxRecDepth 20000 in
theorem gX7_lasts_X7_loudAll : GoodIn wsX7_lasts (wsV RX7 161 RX7 yX7_loudAll wsX7_loudAll) := goodIn_app (goodIn_of _ (by decide +kernel)) ggX7_lasts_X7_loudAll
set_option maxRecDepth 20000 in
theorem ggX7_lasts_X7_allBy : GoodIn wsX7_lasts wsX7_allBy := goodIn_r _ [33, 7, 8, 77, 78, 79, 80, 81, 82, 83, 84, 85, 86, 87, 88, 89, 90, 91, 92, 93, 94, 95, 96, 97, 98, 99, 100, 101, 102, 103, 104, 105, 106, 107, 108, 109, 110, 111, 112, 113, 114, 115, 116] (by decide +kernel) (by decide +kernel)
set_option maxRecDepth 20000 in
theorem gX7_lasts_X7_allBy : GoodIn wsX7_lasts (wsV RX7 231 RX7 yX7_allBy wsX7_allBy) := goodIn_app (goodIn_of _ (by decide +kernel)) ggX7_lasts_X7_allBy
set_option maxRecDepth 20000 in
theorem ggX7_lasts_X7_go : GoodIn wsX7_lasts wsX7_go := goodIn_r _ [37, 12, 38, 8, 11, 39, 40, 41, 5, 42, 17, 43, 44, 45, 46, 14, 18, 19, 20, 21, 22, 23, 24, 25, 26, 15, 27, 28, 29, 47, 48, 49, 50, 51, 52, 53, 54, 55, 56, 57, 58, 59, 60, 61, 62, 63, 64, 65, 66, 67, 68, 69, 70, 71, 72, 73, 74, 75, 76, 77, 78, 79, 80, 81, 82, 83, 84, 85, 86, 87, 88, 89, 90, 91, 92, 93, 94, 95, 96, 97, 98, 99, 100, 101, 102, 103, 104, 105, 106, 107, 108, 109, 110, 111, 112, 113, 114, 115, 116] (by decide +kernel) (by decide +kernel)
set_option maxRecDepth 20000 in
theorem gX7_lasts_X7_go : GoodIn wsX7_lasts (wsV RX7 213 RX7 yX7_go wsX7_go) := goodIn_app (goodIn_of _ (by decide +kernel)) ggX7_lasts_X7_go
theorem dX7_lasts_0 : decode cX7_lasts 0 = .ok (.aload_n 0, 1) := by decide +kernel
theorem dX7_lasts_1 : decode cX7_lasts 1 = .ok (.iconst 0, 1) := by decide +kernel
theorem dX7_lasts_2 : decode cX7_lasts 2 = .ok (.putfield 71, 3) := by decide +kernel
theorem dX7_lasts_5 : decode cX7_lasts 5 = .ok (.aload_n 0, 1) := by decide +kernel
theorem dX7_lasts_6 : decode cX7_lasts 6 = .ok (.invokevirtual 195, 3) := by decide +kernel
theorem dX7_lasts_9 : decode cX7_lasts 9 = .ok (.aload_n 0, 1) := by decide +kernel
theorem dX7_lasts_10 : decode cX7_lasts 10 = .ok (.invokevirtual 161, 3) := by decide +kernel
theorem dX7_lasts_13 : decode cX7_lasts 13 = .ok (.istore_n 1, 1) := by decide +kernel
theorem dX7_lasts_14 : decode cX7_lasts 14 = .ok (.aload_n 0, 1) := by decide +kernel
theorem dX7_lasts_15 : decode cX7_lasts 15 = .ok (.iconst 1, 1) := by decide +kernel
theorem dX7_lasts_16 : decode cX7_lasts 16 = .ok (.invokevirtual 231, 3) := by decide +kernel
theorem dX7_lasts_19 : decode cX7_lasts 19 = .ok (.iconst 0, 1) := by decide +kernel
theorem dX7_lasts_20 : decode cX7_lasts 20 = .ok (.istore_n 2, 1) := by decide +kernel
theorem dX7_lasts_21 : decode cX7_lasts 21 = .ok (.iload_n 2, 1) := by decide +kernel
theorem dX7_lasts_22 : decode cX7_lasts 22 = .ok (.bipush 40, 2) := by decide +kernel
theorem dX7_lasts_24 : decode cX7_lasts 24 = .ok (.if_icmp .gt 24, 3) := by decide +kernel
theorem dX7_lasts_27 : decode cX7_lasts 27 = .ok (.aload_n 0, 1) := by decide +kernel
theorem dX7_lasts_28 : decode cX7_lasts 28 = .ok (.invokevirtual 161, 3) := by decide +kernel
theorem dX7_lasts_31 : decode cX7_lasts 31 = .ok (.iload_n 1, 1) := by decide +kernel
theorem dX7_lasts_32 : decode cX7_lasts 32 = .ok (.if_icmp .lt 5, 3) := by decide +kernel
theorem dX7_lasts_35 : decode cX7_lasts 35 = .ok (.iload_n 2, 1) := by decide +kernel
theorem dX7_lasts_36 : decode cX7_lasts 36 = .ok (.ireturn, 1) := by decide +kernel
theorem dX7_lasts_37 : decode cX7_lasts 37 = .ok (.aload_n 0, 1) := by decide +kernel
theorem dX7_lasts_38 : decode cX7_lasts 38 = .ok (.invokevirtual 213, 3) := by decide +kernel
theorem dX7_lasts_41 : decode cX7_lasts 41 = .ok (.pop, 1) := by decide +kernel
theorem dX7_lasts_42 : decode cX7_lasts 42 = .ok (.iinc 2 1, 3) := by decide +kernel
theorem dX7_lasts_45 : decode cX7_lasts 45 = .ok (.goto (-24), 3) := by decide +kernel
theorem dX7_lasts_48 : decode cX7_lasts 48 = .ok (.bipush (-9), 2) := by decide +kernel
theorem dX7_lasts_50 : decode cX7_lasts 50 = .ok (.ireturn, 1) := by decide +kernel
set_option maxRecDepth 20000 in
theorem ggX7_findStuffs_X7_begin : GoodIn wsX7_findStuffs wsX7_begin := goodIn_r _ [10, 11, 12, 13, 14, 15, 16, 17, 3, 18, 19, 20, 88, 89, 90, 91, 92, 93, 94, 95, 96, 97, 98, 99, 100, 101, 102, 103, 104, 105, 106, 107, 108, 109, 110, 111, 112, 113, 114, 115, 116, 117, 118, 119, 120, 121, 122, 123, 124, 125, 126, 127] (by decide +kernel) (by decide +kernel)
set_option maxRecDepth 20000 in
theorem gX7_findStuffs_X7_begin : GoodIn wsX7_findStuffs (wsV RX7 195 RX7 yX7_begin wsX7_begin) := goodIn_app (goodIn_of _ (by decide +kernel)) ggX7_findStuffs_X7_begin
set_option maxRecDepth 20000 in
theorem ggX7_findStuffs_X7_has : GoodIn wsX7_findStuffs wsX7_has := goodIn_r _ [23] (by decide +kernel) (by decide +kernel)
set_option maxRecDepth 20000 in
theorem gX7_findStuffs_X7_has : GoodIn wsX7_findStuffs (va_wsS RX7 153 yX7_has wsX7_has) := goodIn_app (goodIn_of _ (by decide +kernel)) ggX7_findStuffs_X7_has
set_option maxRecDepth 20000 in
theorem ggX7_findStuffs_X7_goRest : GoodIn wsX7_findStuffs wsX7_goRest := goodIn_r _ [27, 28, 29, 30, 9, 31, 16, 32, 12, 15, 33, 34, 35, 36, 20, 37, 38, 39, 40, 3, 41, 42, 43, 44, 45, 46, 47, 48, 49, 18, 21, 22, 23, 50, 51, 52, 53, 54, 55, 56, 57, 58, 59, 60, 61, 62, 63, 64, 65, 66, 67, 68, 69, 70, 71, 72, 73, 74, 75, 76, 77, 78, 79, 88, 89, 90, 91, 92, 93, 94, 95, 96, 97, 98, 99, 100, 101, 102, 103, 104, 105, 106, 107, 108, 109, 110, 111, 112, 113, 114, 115, 116, 117, 118, 119, 120, 121, 122, 123, 124, 125, 126, 127] (by decide +kernel) (by decide +kernel)
set_option maxRecDepth 20000 in
theorem gX7_findStuffs_X7_goRest : GoodIn wsX7_findStuffs (wsV RX7 234 RX7 yX7_goRest wsX7_goRest) := goodIn_app (goodIn_of _ (by decide +kernel)) ggX7_findStuffs_X7_goRest
set_option maxRecDepth 20000 in
theorem ggX7_findStuffs_X7_allHear : GoodIn wsX7_findStuffs wsX7_allHear := goodIn_r _ [83, 16, 84, 85, 86, 9, 87, 59, 45, 46, 47, 48, 49, 18, 12, 21, 22, 23, 71, 72, 73, 74, 58, 60, 61, 62, 63, 37, 38, 39, 40, 3, 41, 42, 43, 44, 50, 51, 52, 53, 15, 64, 65, 66, 67, 68, 69, 70, 75, 76, 77, 78, 79, 88, 89, 90, 91, 92, 93, 94, 95, 96, 97, 98, 99, 100, 101, 102, 103, 104, 105, 106, 107, 108, 109, 110, 111, 112, 113, 114, 115, 116, 117, 118, 119, 120, 121, 122, 123, 124, 125, 126, 127] (by decide +kernel) (by decide +kernel)
set_option maxRecDepth 20000 in
theorem gX7_findStuffs_X7_allHear : GoodIn wsX7_findStuffs (wsV RX7 237 RX7 yX7_allHear wsX7_allHear) := goodIn_app (goodIn_of _ (by decide +kernel)) ggX7_findStuffs_X7_allHear
theorem dX7_findStuffs_0 : decode cX7_findStuffs 0 = .ok (.bipush (-9), 2) := by decide +kernel
theorem dX7_findStuffs_2 : decode cX7_findStuffs 2 = .ok (.istore_n 1, 1) := by decide +kernel
theorem dX7_findStuffs_3 : decode cX7_findStuffs 3 = .ok (.iconst 0, 1) := by decide +kernel
theorem dX7_findStuffs_4 : decode cX7_findStuffs 4 = .ok (.istore_n 2, 1) := by decide +kernel
theorem dX7_findStuffs_5 : decode cX7_findStuffs 5 = .ok (.iload_n 2, 1) := by decide +kernel
theorem dX7_findStuffs_6 : decode cX7_findStuffs 6 = .ok (.iconst 1, 1) := by decide +kernel
theorem dX7_findStuffs_7 : decode cX7_findStuffs 7 = .ok (.aload_n 0, 1) := by decide +kernel
theorem dX7_findStuffs_8 : decode cX7_findStuffs 8 = .ok (.getfield 122, 3) := by decide +kernel
theorem dX7_findStuffs_11 : decode cX7_findStuffs 11 = .ok (.ishl, 1) := by decide +kernel
theorem dX7_findStuffs_12 : decode cX7_findStuffs 12 = .ok (.if_icmp .ge 141, 3) := by decide +kernel
theorem dX7_findStuffs_15 : decode cX7_findStuffs 15 = .ok (.iconst 0, 1) := by decide +kernel
theorem dX7_findStuffs_16 : decode cX7_findStuffs 16 = .ok (.istore_n 3, 1) := by decide +kernel
theorem dX7_findStuffs_17 : decode cX7_findStuffs 17 = .ok (.aload_n 0, 1) := by decide +kernel
theorem dX7_findStuffs_18 : decode cX7_findStuffs 18 = .ok (.invokevirtual 195, 3) := by decide +kernel
theorem dX7_findStuffs_21 : decode cX7_findStuffs 21 = .ok (.iconst 0, 1) := by decide +kernel
theorem dX7_findStuffs_22 : decode cX7_findStuffs 22 = .ok (.istore 4, 2) := by decide +kernel
theorem dX7_findStuffs_24 : decode cX7_findStuffs 24 = .ok (.iload 4, 2) := by decide +kernel
theorem dX7_findStuffs_26 : decode cX7_findStuffs 26 = .ok (.aload_n 0, 1) := by decide +kernel
theorem dX7_findStuffs_27 : decode cX7_findStuffs 27 = .ok (.getfield 122, 3) := by decide +kernel
theorem dX7_findStuffs_30 : decode cX7_findStuffs 30 = .ok (.if_icmp .ge 61, 3) := by decide +kernel
theorem dX7_findStuffs_33 : decode cX7_findStuffs 33 = .ok (.iload_n 3, 1) := by decide +kernel
theorem dX7_findStuffs_34 : decode cX7_findStuffs 34 = .ok (.iload_n 2, 1) := by decide +kernel
theorem dX7_findStuffs_35 : decode cX7_findStuffs 35 = .ok (.iload 4, 2) := by decide +kernel
theorem dX7_findStuffs_37 : decode cX7_findStuffs 37 = .ok (.invokestatic 153, 3) := by decide +kernel
theorem dX7_findStuffs_40 : decode cX7_findStuffs 40 = .ok (.ifCond .eq 13, 3) := by decide +kernel
theorem dX7_findStuffs_43 : decode cX7_findStuffs 43 = .ok (.aload_n 0, 1) := by decide +kernel
theorem dX7_findStuffs_44 : decode cX7_findStuffs 44 = .ok (.getfield 28, 3) := by decide +kernel
theorem dX7_findStuffs_47 : decode cX7_findStuffs 47 = .ok (.iload 4, 2) := by decide +kernel
theorem dX7_findStuffs_49 : decode cX7_findStuffs 49 = .ok (.iaload, 1) := by decide +kernel
theorem dX7_findStuffs_50 : decode cX7_findStuffs 50 = .ok (.goto 4, 3) := by decide +kernel
theorem dX7_findStuffs_53 : decode cX7_findStuffs 53 = .ok (.iconst 0, 1) := by decide +kernel
theorem dX7_findStuffs_54 : decode cX7_findStuffs 54 = .ok (.iadd, 1) := by decide +kernel
theorem dX7_findStuffs_55 : decode cX7_findStuffs 55 = .ok (.istore_n 3, 1) := by decide +kernel
theorem dX7_findStuffs_56 : decode cX7_findStuffs 56 = .ok (.aload_n 0, 1) := by decide +kernel
theorem dX7_findStuffs_57 : decode cX7_findStuffs 57 = .ok (.dup, 1) := by decide +kernel
theorem dX7_findStuffs_58 : decode cX7_findStuffs 58 = .ok (.getfield 144, 3) := by decide +kernel
theorem dX7_findStuffs_61 : decode cX7_findStuffs 61 = .ok (.iload_n 2, 1) := by decide +kernel
theorem dX7_findStuffs_62 : decode cX7_findStuffs 62 = .ok (.iload 4, 2) := by decide +kernel
theorem dX7_findStuffs_64 : decode cX7_findStuffs 64 = .ok (.invokestatic 153, 3) := by decide +kernel
theorem dX7_findStuffs_67 : decode cX7_findStuffs 67 = .ok (.ifCond .eq 13, 3) := by decide +kernel
theorem dX7_findStuffs_70 : decode cX7_findStuffs 70 = .ok (.aload_n 0, 1) := by decide +kernel
theorem dX7_findStuffs_71 : decode cX7_findStuffs 71 = .ok (.getfield 31, 3) := by decide +kernel
theorem dX7_findStuffs_74 : decode cX7_findStuffs 74 = .ok (.iload 4, 2) := by decide +kernel
theorem dX7_findStuffs_76 : decode cX7_findStuffs 76 = .ok (.iaload, 1) := by decide +kernel
theorem dX7_findStuffs_77 : decode cX7_findStuffs 77 = .ok (.goto 4, 3) := by decide +kernel
theorem dX7_findStuffs_80 : decode cX7_findStuffs 80 = .ok (.iconst 0, 1) := by decide +kernel
theorem dX7_findStuffs_81 : decode cX7_findStuffs 81 = .ok (.iadd, 1) := by decide +kernel
theorem dX7_findStuffs_82 : decode cX7_findStuffs 82 = .ok (.putfield 144, 3) := by decide +kernel
theorem dX7_findStuffs_85 : decode cX7_findStuffs 85 = .ok (.iinc 4 1, 3) := by decide +kernel
theorem dX7_findStuffs_88 : decode cX7_findStuffs 88 = .ok (.goto (-64), 3) := by decide +kernel
theorem dX7_findStuffs_91 : decode cX7_findStuffs 91 = .ok (.aload_n 0, 1) := by decide +kernel
theorem dX7_findStuffs_92 : decode cX7_findStuffs 92 = .ok (.aload_n 0, 1) := by decide +kernel
theorem dX7_findStuffs_93 : decode cX7_findStuffs 93 = .ok (.getfield 144, 3) := by decide +kernel
theorem dX7_findStuffs_96 : decode cX7_findStuffs 96 = .ok (.bipush 9, 2) := by decide +kernel
theorem dX7_findStuffs_98 : decode cX7_findStuffs 98 = .ok (.if_icmp .le 8, 3) := by decide +kernel
theorem dX7_findStuffs_101 : decode cX7_findStuffs 101 = .ok (.bipush 9, 2) := by decide +kernel
theorem dX7_findStuffs_103 : decode cX7_findStuffs 103 = .ok (.goto 7, 3) := by decide +kernel
theorem dX7_findStuffs_106 : decode cX7_findStuffs 106 = .ok (.aload_n 0, 1) := by decide +kernel
theorem dX7_findStuffs_107 : decode cX7_findStuffs 107 = .ok (.getfield 144, 3) := by decide +kernel
theorem dX7_findStuffs_110 : decode cX7_findStuffs 110 = .ok (.putfield 144, 3) := by decide +kernel
theorem dX7_findStuffs_113 : decode cX7_findStuffs 113 = .ok (.iload_n 1, 1) := by decide +kernel
theorem dX7_findStuffs_114 : decode cX7_findStuffs 114 = .ok (.bipush (-9), 2) := by decide +kernel
theorem dX7_findStuffs_116 : decode cX7_findStuffs 116 = .ok (.if_icmp .eq 8, 3) := by decide +kernel
theorem dX7_findStuffs_119 : decode cX7_findStuffs 119 = .ok (.iload_n 3, 1) := by decide +kernel
theorem dX7_findStuffs_120 : decode cX7_findStuffs 120 = .ok (.iload_n 1, 1) := by decide +kernel
theorem dX7_findStuffs_121 : decode cX7_findStuffs 121 = .ok (.if_icmp .ge 26, 3) := by decide +kernel
theorem dX7_findStuffs_124 : decode cX7_findStuffs 124 = .ok (.aload_n 0, 1) := by decide +kernel
theorem dX7_findStuffs_125 : decode cX7_findStuffs 125 = .ok (.invokevirtual 234, 3) := by decide +kernel
theorem dX7_findStuffs_128 : decode cX7_findStuffs 128 = .ok (.bipush (-9), 2) := by decide +kernel
theorem dX7_findStuffs_130 : decode cX7_findStuffs 130 = .ok (.if_icmp .eq 17, 3) := by decide +kernel
theorem dX7_findStuffs_133 : decode cX7_findStuffs 133 = .ok (.aload_n 0, 1) := by decide +kernel
theorem dX7_findStuffs_134 : decode cX7_findStuffs 134 = .ok (.invokevirtual 237, 3) := by decide +kernel
theorem dX7_findStuffs_137 : decode cX7_findStuffs 137 = .ok (.ifCond .eq 10, 3) := by decide +kernel
theorem dX7_findStuffs_140 : decode cX7_findStuffs 140 = .ok (.iload_n 3, 1) := by decide +kernel
theorem dX7_findStuffs_141 : decode cX7_findStuffs 141 = .ok (.istore_n 1, 1) := by decide +kernel
theorem dX7_findStuffs_142 : decode cX7_findStuffs 142 = .ok (.aload_n 0, 1) := by decide +kernel
theorem dX7_findStuffs_143 : decode cX7_findStuffs 143 = .ok (.iload_n 2, 1) := by decide +kernel
theorem dX7_findStuffs_144 : decode cX7_findStuffs 144 = .ok (.putfield 240, 3) := by decide +kernel
theorem dX7_findStuffs_147 : decode cX7_findStuffs 147 = .ok (.iinc 2 1, 3) := by decide +kernel
theorem dX7_findStuffs_150 : decode cX7_findStuffs 150 = .ok (.goto (-145), 3) := by decide +kernel
theorem dX7_findStuffs_153 : decode cX7_findStuffs 153 = .ok (.iload_n 1, 1) := by decide +kernel
theorem dX7_findStuffs_154 : decode cX7_findStuffs 154 = .ok (.ireturn, 1) := by decide +kernel
set_option maxRecDepth 20000 in
theorem ggX7_stuffs_X7_findStuffs : GoodIn wsX7_stuffs wsX7_findStuffs := goodIn_r _ [7, 8, 9, 10, 11, 2, 12, 13, 14, 6, 15, 16, 17, 18, 19, 20, 21, 22, 23, 24, 25, 26, 27, 28, 29, 30, 31, 32, 33, 34, 35, 36, 37, 38, 39, 40, 41, 42, 43, 44, 45, 46, 47, 48, 49, 50, 51, 52, 53, 54, 55, 56, 57, 58, 59, 60, 61, 62, 63, 64, 65, 66, 67, 68, 69, 70, 71, 72, 73, 74, 75, 76, 77, 78, 79, 80, 81, 82, 83, 84, 85, 86, 87, 88, 89, 90, 91, 92, 93, 94, 95, 96, 97, 98, 99, 100, 101, 102, 103, 104, 105, 106, 107, 108, 109, 110, 111, 112, 113, 114, 115, 116, 117, 118, 119, 120, 121, 122, 123, 124, 125, 126, 127, 128, 129, 130, 131, 132] (by decide +kernel) (by decide +kernel)
set_option maxRecDepth 20000 in
theorem gX7_stuffs_X7_findStuffs : GoodIn wsX7_stuffs (wsV RX7 243 RX7 yX7_findStuffs wsX7_findStuffs) := goodIn_app (goodIn_of _ (by decide +kernel)) ggX7_stuffs_X7_findStuffs
theorem dX7_stuffs_0 : decode cX7_stuffs 0 = .ok (.aload_n 0, 1) := by decide +kernel
theorem dX7_stuffs_1 : decode cX7_stuffs 1 = .ok (.iconst 0, 1) := by decide +kernel
theorem dX7_stuffs_2 : decode cX7_stuffs 2 = .ok (.putfield 71, 3) := by decide +kernel
theorem dX7_stuffs_5 : decode cX7_stuffs 5 = .ok (.aload_n 0, 1) := by decide +kernel
theorem dX7_stuffs_6 : decode cX7_stuffs 6 = .ok (.invokevirtual 243, 3) := by decide +kernel
theorem dX7_stuffs_9 : decode cX7_stuffs 9 = .ok (.istore_n 2, 1) := by decide +kernel
theorem dX7_stuffs_10 : decode cX7_stuffs 10 = .ok (.iload_n 2, 1) := by decide +kernel
theorem dX7_stuffs_11 : decode cX7_stuffs 11 = .ok (.bipush (-9), 2) := by decide +kernel
theorem dX7_stuffs_13 : decode cX7_stuffs 13 = .ok (.if_icmp .eq 7, 3) := by decide +kernel
theorem dX7_stuffs_16 : decode cX7_stuffs 16 = .ok (.iload_n 1, 1) := by decide +kernel
theorem dX7_stuffs_17 : decode cX7_stuffs 17 = .ok (.ifCond .ne 7, 3) := by decide +kernel
theorem dX7_stuffs_20 : decode cX7_stuffs 20 = .ok (.iload_n 2, 1) := by decide +kernel
theorem dX7_stuffs_21 : decode cX7_stuffs 21 = .ok (.goto 7, 3) := by decide +kernel
theorem dX7_stuffs_24 : decode cX7_stuffs 24 = .ok (.aload_n 0, 1) := by decide +kernel
theorem dX7_stuffs_25 : decode cX7_stuffs 25 = .ok (.getfield 240, 3) := by decide +kernel
theorem dX7_stuffs_28 : decode cX7_stuffs 28 = .ok (.ireturn, 1) := by decide +kernel
set_option maxRecDepth 20000 in
theorem ggX7_loudest_X7_begin : GoodIn wsX7_loudest wsX7_begin := goodIn_r _ [8, 9, 10, 11, 12, 2, 13, 14, 15, 16, 17, 3, 85, 86, 87, 88, 89, 90, 91, 92, 93, 94, 95, 96, 97, 98, 99, 100, 101, 102, 103, 104, 105, 106, 107, 108, 109, 110, 111, 112, 113, 114, 115, 116, 117, 118, 119, 120, 121, 122, 123, 124] (by decide +kernel) (by decide +kernel)
set_option maxRecDepth 20000 in
theorem gX7_loudest_X7_begin : GoodIn wsX7_loudest (wsV RX7 195 RX7 yX7_begin wsX7_begin) := goodIn_app (goodIn_of _ (by decide +kernel)) ggX7_loudest_X7_begin
set_option maxRecDepth 20000 in
theorem ggX7_loudest_X7_goRest : GoodIn wsX7_loudest wsX7_goRest := goodIn_r _ [21, 22, 23, 24, 7, 25, 13, 26, 10, 2, 27, 28, 29, 30, 3, 31, 32, 33, 34, 15, 35, 36, 37, 38, 39, 40, 41, 42, 43, 16, 44, 45, 46, 47, 48, 49, 50, 51, 52, 53, 54, 55, 56, 57, 58, 59, 60, 61, 62, 63, 64, 65, 66, 67, 68, 69, 70, 71, 72, 73, 74, 75, 76, 85, 86, 87, 88, 89, 90, 91, 92, 93, 94, 95, 96, 97, 98, 99, 100, 101, 102, 103, 104, 105, 106, 107, 108, 109, 110, 111, 112, 113, 114, 115, 116, 117, 118, 119, 120, 121, 122, 123, 124] (by decide +kernel) (by decide +kernel)
set_option maxRecDepth 20000 in
theorem gX7_loudest_X7_goRest : GoodIn wsX7_loudest (wsV RX7 234 RX7 yX7_goRest wsX7_goRest) := goodIn_app (goodIn_of _ (by decide +kernel)) ggX7_loudest_X7_goRest
set_option maxRecDepth 20000 in
theorem ggX7_loudest_X7_allHear : GoodIn wsX7_loudest wsX7_allHear := goodIn_r _ [80, 13, 81, 82, 83, 7, 84, 56, 39, 40, 41, 42, 43, 16, 10, 44, 45, 46, 68, 69, 70, 71, 55, 57, 58, 59, 60, 31, 32, 33, 34, 15, 35, 36, 37, 38, 47, 48, 49, 50, 2, 61, 62, 63, 64, 65, 66, 67, 72, 73, 74, 75, 76, 85, 86, 87, 88, 89, 90, 91, 92, 93, 94, 95, 96, 97, 98, 99, 100, 101, 102, 103, 104, 105, 106, 107, 108, 109, 110, 111, 112, 113, 114, 115, 116, 117, 118, 119, 120, 121, 122, 123, 124] (by decide +kernel) (by decide +kernel)
set_option maxRecDepth 20000 in
theorem gX7_loudest_X7_allHear : GoodIn wsX7_loudest (wsV RX7 237 RX7 yX7_allHear wsX7_allHear) := goodIn_app (goodIn_of _ (by decide +kernel)) ggX7_loudest_X7_allHear
theorem dX7_loudest_0 : decode cX7_loudest 0 = .ok (.aload_n 0, 1) := by decide +kernel
theorem dX7_loudest_1 : decode cX7_loudest 1 = .ok (.iconst 0, 1) := by decide +kernel
theorem dX7_loudest_2 : decode cX7_loudest 2 = .ok (.putfield 71, 3) := by decide +kernel
theorem dX7_loudest_5 : decode cX7_loudest 5 = .ok (.bipush 9, 2) := by decide +kernel
theorem dX7_loudest_7 : decode cX7_loudest 7 = .ok (.istore_n 1, 1) := by decide +kernel
theorem dX7_loudest_8 : decode cX7_loudest 8 = .ok (.iload_n 1, 1) := by decide +kernel
theorem dX7_loudest_9 : decode cX7_loudest 9 = .ok (.ifCond .lt 41, 3) := by decide +kernel
theorem dX7_loudest_12 : decode cX7_loudest 12 = .ok (.aload_n 0, 1) := by decide +kernel
theorem dX7_loudest_13 : decode cX7_loudest 13 = .ok (.invokevirtual 195, 3) := by decide +kernel
theorem dX7_loudest_16 : decode cX7_loudest 16 = .ok (.aload_n 0, 1) := by decide +kernel
theorem dX7_loudest_17 : decode cX7_loudest 17 = .ok (.iload_n 1, 1) := by decide +kernel
theorem dX7_loudest_18 : decode cX7_loudest 18 = .ok (.putfield 138, 3) := by decide +kernel
theorem dX7_loudest_21 : decode cX7_loudest 21 = .ok (.aload_n 0, 1) := by decide +kernel
theorem dX7_loudest_22 : decode cX7_loudest 22 = .ok (.iconst 0, 1) := by decide +kernel
theorem dX7_loudest_23 : decode cX7_loudest 23 = .ok (.putfield 150, 3) := by decide +kernel
theorem dX7_loudest_26 : decode cX7_loudest 26 = .ok (.aload_n 0, 1) := by decide +kernel
theorem dX7_loudest_27 : decode cX7_loudest 27 = .ok (.invokevirtual 234, 3) := by decide +kernel
theorem dX7_loudest_30 : decode cX7_loudest 30 = .ok (.bipush (-9), 2) := by decide +kernel
theorem dX7_loudest_32 : decode cX7_loudest 32 = .ok (.if_icmp .eq 12, 3) := by decide +kernel
theorem dX7_loudest_35 : decode cX7_loudest 35 = .ok (.aload_n 0, 1) := by decide +kernel
theorem dX7_loudest_36 : decode cX7_loudest 36 = .ok (.invokevirtual 237, 3) := by decide +kernel
theorem dX7_loudest_39 : decode cX7_loudest 39 = .ok (.ifCond .eq 5, 3) := by decide +kernel
theorem dX7_loudest_42 : decode cX7_loudest 42 = .ok (.iload_n 1, 1) := by decide +kernel
theorem dX7_loudest_43 : decode cX7_loudest 43 = .ok (.ireturn, 1) := by decide +kernel
theorem dX7_loudest_44 : decode cX7_loudest 44 = .ok (.iinc 1 (-1), 3) := by decide +kernel
theorem dX7_loudest_47 : decode cX7_loudest 47 = .ok (.goto (-39), 3) := by decide +kernel
theorem dX7_loudest_50 : decode cX7_loudest 50 = .ok (.bipush (-9), 2) := by decide +kernel
theorem dX7_loudest_52 : decode cX7_loudest 52 = .ok (.ireturn, 1) := by decide +kernel
set_option maxRecDepth 20000 in
theorem ggX7_softer_X7_begin : GoodIn wsX7_softer wsX7_begin := goodIn_r _ [6, 7, 8, 9, 10, 11, 12, 13, 14, 15, 16, 17, 72, 73, 74, 75, 76, 77, 78, 79, 80, 81, 82, 83, 84, 85, 86, 87, 88, 89, 90, 91, 92, 93, 94, 95, 96, 97, 98, 99, 100, 101, 102, 103, 104, 105, 106, 107, 108, 109, 110, 111] (by decide +kernel) (by decide +kernel)
set_option maxRecDepth 20000 in
theorem gX7_softer_X7_begin : GoodIn wsX7_softer (wsV RX7 195 RX7 yX7_begin wsX7_begin) := goodIn_app (goodIn_of _ (by decide +kernel)) ggX7_softer_X7_begin
set_option maxRecDepth 20000 in
theorem ggX7_softer_X7_allBy : GoodIn wsX7_softer wsX7_allBy := goodIn_r _ [21, 7, 8, 72, 73, 74, 75, 76, 77, 78, 79, 80, 81, 82, 83, 84, 85, 86, 87, 88, 89, 90, 91, 92, 93, 94, 95, 96, 97, 98, 99, 100, 101, 102, 103, 104, 105, 106, 107, 108, 109, 110, 111] (by decide +kernel) (by decide +kernel)
set_option maxRecDepth 20000 in
theorem gX7_softer_X7_allBy : GoodIn wsX7_softer (wsV RX7 231 RX7 yX7_allBy wsX7_allBy) := goodIn_app (goodIn_of _ (by decide +kernel)) ggX7_softer_X7_allBy
set_option maxRecDepth 20000 in
theorem ggX7_softer_X7_allHear : GoodIn wsX7_softer wsX7_allHear := goodIn_r _ [25, 12, 26, 27, 28, 5, 29, 30, 31, 32, 33, 34, 35, 15, 8, 36, 37, 38, 39, 40, 41, 42, 43, 44, 45, 46, 47, 48, 49, 50, 51, 14, 52, 53, 54, 55, 56, 57, 58, 59, 11, 60, 61, 62, 63, 64, 65, 66, 67, 68, 69, 70, 71, 72, 73, 74, 75, 76, 77, 78, 79, 80, 81, 82, 83, 84, 85, 86, 87, 88, 89, 90, 91, 92, 93, 94, 95, 96, 97, 98, 99, 100, 101, 102, 103, 104, 105, 106, 107, 108, 109, 110, 111] (by decide +kernel) (by decide +kernel)
set_option maxRecDepth 20000 in
theorem gX7_softer_X7_allHear : GoodIn wsX7_softer (wsV RX7 237 RX7 yX7_allHear wsX7_allHear) := goodIn_app (goodIn_of _ (by decide +kernel)) ggX7_softer_X7_allHear
theorem dX7_softer_0 : decode cX7_softer 0 = .ok (.aload_n 0, 1) := by decide +kernel
theorem dX7_softer_1 : decode cX7_softer 1 = .ok (.iconst 0, 1) := by decide +kernel
theorem dX7_softer_2 : decode cX7_softer 2 = .ok (.putfield 71, 3) := by decide +kernel
theorem dX7_softer_5 : decode cX7_softer 5 = .ok (.aload_n 0, 1) := by decide +kernel
theorem dX7_softer_6 : decode cX7_softer 6 = .ok (.invokevirtual 195, 3) := by decide +kernel
theorem dX7_softer_9 : decode cX7_softer 9 = .ok (.iconst 1, 1) := by decide +kernel
theorem dX7_softer_10 : decode cX7_softer 10 = .ok (.istore_n 1, 1) := by decide +kernel
theorem dX7_softer_11 : decode cX7_softer 11 = .ok (.iload_n 1, 1) := by decide +kernel
theorem dX7_softer_12 : decode cX7_softer 12 = .ok (.bipush 10, 2) := by decide +kernel
theorem dX7_softer_14 : decode cX7_softer 14 = .ok (.if_icmp .ge 23, 3) := by decide +kernel
theorem dX7_softer_17 : decode cX7_softer 17 = .ok (.aload_n 0, 1) := by decide +kernel
theorem dX7_softer_18 : decode cX7_softer 18 = .ok (.iload_n 1, 1) := by decide +kernel
theorem dX7_softer_19 : decode cX7_softer 19 = .ok (.invokevirtual 231, 3) := by decide +kernel
theorem dX7_softer_22 : decode cX7_softer 22 = .ok (.aload_n 0, 1) := by decide +kernel
theorem dX7_softer_23 : decode cX7_softer 23 = .ok (.invokevirtual 237, 3) := by decide +kernel
theorem dX7_softer_26 : decode cX7_softer 26 = .ok (.ifCond .eq 5, 3) := by decide +kernel
theorem dX7_softer_29 : decode cX7_softer 29 = .ok (.iload_n 1, 1) := by decide +kernel
theorem dX7_softer_30 : decode cX7_softer 30 = .ok (.ireturn, 1) := by decide +kernel
theorem dX7_softer_31 : decode cX7_softer 31 = .ok (.iinc 1 1, 3) := by decide +kernel
theorem dX7_softer_34 : decode cX7_softer 34 = .ok (.goto (-23), 3) := by decide +kernel
theorem dX7_softer_37 : decode cX7_softer 37 = .ok (.bipush (-9), 2) := by decide +kernel
theorem dX7_softer_39 : decode cX7_softer 39 = .ok (.ireturn, 1) := by decide +kernel
set_option maxRecDepth 20000 in
theorem ggX7_overhears_X7_noRing : GoodIn wsX7_overhears wsX7_noRing := goodIn_r _ [8, 2, 9, 10, 7, 11, 57, 58, 59, 60, 61, 62, 63, 64, 65, 66, 67, 68, 69, 70, 71, 72, 73, 74, 75, 76, 77, 78, 79, 80, 81, 82, 83, 84, 85, 86, 87, 88, 89, 90, 91, 92, 93, 94, 95, 96] (by decide +kernel) (by decide +kernel)
set_option maxRecDepth 20000 in
theorem gX7_overhears_X7_noRing : GoodIn wsX7_overhears (wsV RX7 201 RX7 yX7_noRing wsX7_noRing) := goodIn_app (goodIn_of _ (by decide +kernel)) ggX7_overhears_X7_noRing
set_option maxRecDepth 20000 in
theorem ggX7_overhears_X7_begin : GoodIn wsX7_overhears wsX7_begin := goodIn_r _ [15, 2, 16, 17, 18, 19, 20, 21, 22, 23, 24, 25, 57, 58, 59, 60, 61, 62, 63, 64, 65, 66, 67, 68, 69, 70, 71, 72, 73, 74, 75, 76, 77, 78, 79, 80, 81, 82, 83, 84, 85, 86, 87, 88, 89, 90, 91, 92, 93, 94, 95, 96] (by decide +kernel) (by decide +kernel)
set_option maxRecDepth 20000 in
theorem gX7_overhears_X7_begin : GoodIn wsX7_overhears (wsV RX7 195 RX7 yX7_begin wsX7_begin) := goodIn_app (goodIn_of _ (by decide +kernel)) ggX7_overhears_X7_begin
set_option maxRecDepth 20000 in
theorem ggX7_overhears_X7_fromAt : GoodIn wsX7_overhears wsX7_fromAt := goodIn_r _ [29, 3, 30, 31, 32, 7, 33, 34, 23, 16, 35, 36, 37, 38, 39, 40, 57, 58, 59, 60, 61, 62, 63, 64, 65, 66, 67, 68, 69, 70, 71, 72, 73, 74, 75, 76, 77, 78, 79, 80, 81, 82, 83, 84, 85, 86, 87, 88, 89, 90, 91, 92, 93, 94, 95, 96] (by decide +kernel) (by decide +kernel)
set_option maxRecDepth 20000 in
theorem gX7_overhears_X7_fromAt : GoodIn wsX7_overhears (wsV RX7 173 RX7 yX7_fromAt wsX7_fromAt) := goodIn_app (goodIn_of _ (by decide +kernel)) ggX7_overhears_X7_fromAt
set_option maxRecDepth 20000 in
theorem ggX7_overhears_X7_noiseAt : GoodIn wsX7_overhears wsX7_noiseAt := goodIn_r _ [44, 20, 45, 46, 47, 7, 48, 22, 49, 50, 51, 52, 30, 31, 32, 33, 34, 23, 16, 35, 36, 37, 53, 54, 55, 56, 19, 26, 27, 28, 29, 3, 38, 39, 40, 57, 58, 59, 60, 61, 62, 63, 64, 65, 66, 67, 68, 69, 70, 71, 72, 73, 74, 75, 76, 77, 78, 79, 80, 81, 82, 83, 84, 85, 86, 87, 88, 89, 90, 91, 92, 93, 94, 95, 96] (by decide +kernel) (by decide +kernel)
set_option maxRecDepth 20000 in
theorem gX7_overhears_X7_noiseAt : GoodIn wsX7_overhears (wsV RX7 179 RX7 yX7_noiseAt wsX7_noiseAt) := goodIn_app (goodIn_of _ (by decide +kernel)) ggX7_overhears_X7_noiseAt
theorem dX7_overhears_0 : decode cX7_overhears 0 = .ok (.aload_n 0, 1) := by decide +kernel
theorem dX7_overhears_1 : decode cX7_overhears 1 = .ok (.iconst 0, 1) := by decide +kernel
theorem dX7_overhears_2 : decode cX7_overhears 2 = .ok (.putfield 71, 3) := by decide +kernel
theorem dX7_overhears_5 : decode cX7_overhears 5 = .ok (.aload_n 0, 1) := by decide +kernel
theorem dX7_overhears_6 : decode cX7_overhears 6 = .ok (.iload_n 1, 1) := by decide +kernel
theorem dX7_overhears_7 : decode cX7_overhears 7 = .ok (.invokevirtual 201, 3) := by decide +kernel
theorem dX7_overhears_10 : decode cX7_overhears 10 = .ok (.ifCond .eq 5, 3) := by decide +kernel
theorem dX7_overhears_13 : decode cX7_overhears 13 = .ok (.iconst (-1), 1) := by decide +kernel
theorem dX7_overhears_14 : decode cX7_overhears 14 = .ok (.ireturn, 1) := by decide +kernel
theorem dX7_overhears_15 : decode cX7_overhears 15 = .ok (.aload_n 0, 1) := by decide +kernel
theorem dX7_overhears_16 : decode cX7_overhears 16 = .ok (.invokevirtual 195, 3) := by decide +kernel
theorem dX7_overhears_19 : decode cX7_overhears 19 = .ok (.iconst 0, 1) := by decide +kernel
theorem dX7_overhears_20 : decode cX7_overhears 20 = .ok (.istore_n 2, 1) := by decide +kernel
theorem dX7_overhears_21 : decode cX7_overhears 21 = .ok (.iconst 0, 1) := by decide +kernel
theorem dX7_overhears_22 : decode cX7_overhears 22 = .ok (.istore_n 3, 1) := by decide +kernel
theorem dX7_overhears_23 : decode cX7_overhears 23 = .ok (.iload_n 3, 1) := by decide +kernel
theorem dX7_overhears_24 : decode cX7_overhears 24 = .ok (.aload_n 0, 1) := by decide +kernel
theorem dX7_overhears_25 : decode cX7_overhears 25 = .ok (.getfield 75, 3) := by decide +kernel
theorem dX7_overhears_28 : decode cX7_overhears 28 = .ok (.if_icmp .ge 55, 3) := by decide +kernel
theorem dX7_overhears_31 : decode cX7_overhears 31 = .ok (.aload_n 0, 1) := by decide +kernel
theorem dX7_overhears_32 : decode cX7_overhears 32 = .ok (.iload_n 3, 1) := by decide +kernel
theorem dX7_overhears_33 : decode cX7_overhears 33 = .ok (.aload_n 0, 1) := by decide +kernel
theorem dX7_overhears_34 : decode cX7_overhears 34 = .ok (.getfield 16, 3) := by decide +kernel
theorem dX7_overhears_37 : decode cX7_overhears 37 = .ok (.iload_n 1, 1) := by decide +kernel
theorem dX7_overhears_38 : decode cX7_overhears 38 = .ok (.iaload, 1) := by decide +kernel
theorem dX7_overhears_39 : decode cX7_overhears 39 = .ok (.invokevirtual 173, 3) := by decide +kernel
theorem dX7_overhears_42 : decode cX7_overhears 42 = .ok (.istore 4, 2) := by decide +kernel
theorem dX7_overhears_44 : decode cX7_overhears 44 = .ok (.iload_n 2, 1) := by decide +kernel
theorem dX7_overhears_45 : decode cX7_overhears 45 = .ok (.iload 4, 2) := by decide +kernel
theorem dX7_overhears_47 : decode cX7_overhears 47 = .ok (.ifCond .le 27, 3) := by decide +kernel
theorem dX7_overhears_50 : decode cX7_overhears 50 = .ok (.iload 4, 2) := by decide +kernel
theorem dX7_overhears_52 : decode cX7_overhears 52 = .ok (.aload_n 0, 1) := by decide +kernel
theorem dX7_overhears_53 : decode cX7_overhears 53 = .ok (.aload_n 0, 1) := by decide +kernel
theorem dX7_overhears_54 : decode cX7_overhears 54 = .ok (.getfield 16, 3) := by decide +kernel
theorem dX7_overhears_57 : decode cX7_overhears 57 = .ok (.iload_n 1, 1) := by decide +kernel
theorem dX7_overhears_58 : decode cX7_overhears 58 = .ok (.iaload, 1) := by decide +kernel
theorem dX7_overhears_59 : decode cX7_overhears 59 = .ok (.invokevirtual 179, 3) := by decide +kernel
theorem dX7_overhears_62 : decode cX7_overhears 62 = .ok (.iload 4, 2) := by decide +kernel
theorem dX7_overhears_64 : decode cX7_overhears 64 = .ok (.isub, 1) := by decide +kernel
theorem dX7_overhears_65 : decode cX7_overhears 65 = .ok (.if_icmp .lt 9, 3) := by decide +kernel
theorem dX7_overhears_68 : decode cX7_overhears 68 = .ok (.iconst 1, 1) := by decide +kernel
theorem dX7_overhears_69 : decode cX7_overhears 69 = .ok (.iload_n 3, 1) := by decide +kernel
theorem dX7_overhears_70 : decode cX7_overhears 70 = .ok (.ishl, 1) := by decide +kernel
theorem dX7_overhears_71 : decode cX7_overhears 71 = .ok (.goto 4, 3) := by decide +kernel
theorem dX7_overhears_74 : decode cX7_overhears 74 = .ok (.iconst 0, 1) := by decide +kernel
theorem dX7_overhears_75 : decode cX7_overhears 75 = .ok (.ior, 1) := by decide +kernel
theorem dX7_overhears_76 : decode cX7_overhears 76 = .ok (.istore_n 2, 1) := by decide +kernel
theorem dX7_overhears_77 : decode cX7_overhears 77 = .ok (.iinc 3 1, 3) := by decide +kernel
theorem dX7_overhears_80 : decode cX7_overhears 80 = .ok (.goto (-57), 3) := by decide +kernel
theorem dX7_overhears_83 : decode cX7_overhears 83 = .ok (.iload_n 2, 1) := by decide +kernel
theorem dX7_overhears_84 : decode cX7_overhears 84 = .ok (.ireturn, 1) := by decide +kernel
set_option maxRecDepth 20000 in
theorem ggX7_quietest_X7_begin : GoodIn wsX7_quietest wsX7_begin := goodIn_r _ [7, 8, 9, 10, 11, 12, 13, 14, 15, 16, 17, 18, 55, 56, 57, 58, 59, 60, 61, 62, 63, 64, 65, 66, 67, 68, 69, 70, 71, 72, 73, 74, 75, 76, 77, 78, 79, 80, 81, 82, 83, 84, 85, 86, 87, 88, 89, 90, 91, 92, 93, 94] (by decide +kernel) (by decide +kernel)
set_option maxRecDepth 20000 in
theorem gX7_quietest_X7_begin : GoodIn wsX7_quietest (wsV RX7 195 RX7 yX7_begin wsX7_begin) := goodIn_app (goodIn_of _ (by decide +kernel)) ggX7_quietest_X7_begin
set_option maxRecDepth 20000 in
theorem ggX7_quietest_X7_isTaken : GoodIn wsX7_quietest wsX7_isTaken := goodIn_r _ [22, 8, 23, 55, 56, 57, 58, 59, 60, 61, 62, 63, 64, 65, 66, 67, 68, 69, 70, 71, 72, 73, 74, 75, 76, 77, 78, 79, 80, 81, 82, 83, 84, 85, 86, 87, 88, 89, 90, 91, 92, 93, 94] (by decide +kernel) (by decide +kernel)
set_option maxRecDepth 20000 in
theorem gX7_quietest_X7_isTaken : GoodIn wsX7_quietest (wsV RX7 216 RX7 yX7_isTaken wsX7_isTaken) := goodIn_app (goodIn_of _ (by decide +kernel)) ggX7_quietest_X7_isTaken
set_option maxRecDepth 20000 in
theorem ggX7_quietest_X7_noiseAt : GoodIn wsX7_quietest wsX7_noiseAt := goodIn_r _ [27, 13, 28, 29, 30, 6, 31, 15, 32, 33, 34, 35, 36, 37, 38, 39, 40, 16, 9, 41, 42, 43, 44, 45, 46, 47, 12, 48, 49, 50, 51, 23, 52, 53, 54, 55, 56, 57, 58, 59, 60, 61, 62, 63, 64, 65, 66, 67, 68, 69, 70, 71, 72, 73, 74, 75, 76, 77, 78, 79, 80, 81, 82, 83, 84, 85, 86, 87, 88, 89, 90, 91, 92, 93, 94] (by decide +kernel) (by decide +kernel)
set_option maxRecDepth 20000 in
theorem gX7_quietest_X7_noiseAt : GoodIn wsX7_quietest (wsV RX7 179 RX7 yX7_noiseAt wsX7_noiseAt) := goodIn_app (goodIn_of _ (by decide +kernel)) ggX7_quietest_X7_noiseAt
theorem dX7_quietest_0 : decode cX7_quietest 0 = .ok (.aload_n 0, 1) := by decide +kernel
theorem dX7_quietest_1 : decode cX7_quietest 1 = .ok (.iconst 0, 1) := by decide +kernel
theorem dX7_quietest_2 : decode cX7_quietest 2 = .ok (.putfield 71, 3) := by decide +kernel
theorem dX7_quietest_5 : decode cX7_quietest 5 = .ok (.aload_n 0, 1) := by decide +kernel
theorem dX7_quietest_6 : decode cX7_quietest 6 = .ok (.invokevirtual 195, 3) := by decide +kernel
theorem dX7_quietest_9 : decode cX7_quietest 9 = .ok (.bipush (-9), 2) := by decide +kernel
theorem dX7_quietest_11 : decode cX7_quietest 11 = .ok (.istore_n 1, 1) := by decide +kernel
theorem dX7_quietest_12 : decode cX7_quietest 12 = .ok (.ldc 246, 2) := by decide +kernel
theorem dX7_quietest_14 : decode cX7_quietest 14 = .ok (.istore_n 2, 1) := by decide +kernel
theorem dX7_quietest_15 : decode cX7_quietest 15 = .ok (.iconst 0, 1) := by decide +kernel
theorem dX7_quietest_16 : decode cX7_quietest 16 = .ok (.istore_n 3, 1) := by decide +kernel
theorem dX7_quietest_17 : decode cX7_quietest 17 = .ok (.iload_n 3, 1) := by decide +kernel
theorem dX7_quietest_18 : decode cX7_quietest 18 = .ok (.bipush 100, 2) := by decide +kernel
theorem dX7_quietest_20 : decode cX7_quietest 20 = .ok (.if_icmp .ge 34, 3) := by decide +kernel
theorem dX7_quietest_23 : decode cX7_quietest 23 = .ok (.aload_n 0, 1) := by decide +kernel
theorem dX7_quietest_24 : decode cX7_quietest 24 = .ok (.iload_n 3, 1) := by decide +kernel
theorem dX7_quietest_25 : decode cX7_quietest 25 = .ok (.invokevirtual 216, 3) := by decide +kernel
theorem dX7_quietest_28 : decode cX7_quietest 28 = .ok (.ifCond .ne 20, 3) := by decide +kernel
theorem dX7_quietest_31 : decode cX7_quietest 31 = .ok (.aload_n 0, 1) := by decide +kernel
theorem dX7_quietest_32 : decode cX7_quietest 32 = .ok (.iload_n 3, 1) := by decide +kernel
theorem dX7_quietest_33 : decode cX7_quietest 33 = .ok (.invokevirtual 179, 3) := by decide +kernel
theorem dX7_quietest_36 : decode cX7_quietest 36 = .ok (.iload_n 2, 1) := by decide +kernel
theorem dX7_quietest_37 : decode cX7_quietest 37 = .ok (.if_icmp .ge 11, 3) := by decide +kernel
theorem dX7_quietest_40 : decode cX7_quietest 40 = .ok (.aload_n 0, 1) := by decide +kernel
theorem dX7_quietest_41 : decode cX7_quietest 41 = .ok (.iload_n 3, 1) := by decide +kernel
theorem dX7_quietest_42 : decode cX7_quietest 42 = .ok (.invokevirtual 179, 3) := by decide +kernel
theorem dX7_quietest_45 : decode cX7_quietest 45 = .ok (.istore_n 2, 1) := by decide +kernel
theorem dX7_quietest_46 : decode cX7_quietest 46 = .ok (.iload_n 3, 1) := by decide +kernel
theorem dX7_quietest_47 : decode cX7_quietest 47 = .ok (.istore_n 1, 1) := by decide +kernel
theorem dX7_quietest_48 : decode cX7_quietest 48 = .ok (.iinc 3 1, 3) := by decide +kernel
theorem dX7_quietest_51 : decode cX7_quietest 51 = .ok (.goto (-34), 3) := by decide +kernel
theorem dX7_quietest_54 : decode cX7_quietest 54 = .ok (.iload_n 1, 1) := by decide +kernel
theorem dX7_quietest_55 : decode cX7_quietest 55 = .ok (.ireturn, 1) := by decide +kernel
set_option maxRecDepth 20000 in
theorem ggX7_apart_X7_far : GoodIn wsX7_apart wsX7_far := goodIn_r _ [7] (by decide +kernel) (by decide +kernel)
set_option maxRecDepth 20000 in
theorem gX7_apart_X7_far : GoodIn wsX7_apart (va_wsS RX7 167 yX7_far wsX7_far) := goodIn_app (goodIn_of _ (by decide +kernel)) ggX7_apart_X7_far
theorem dX7_apart_0 : decode cX7_apart 0 = .ok (.sipush 1000, 3) := by decide +kernel
theorem dX7_apart_3 : decode cX7_apart 3 = .ok (.istore_n 2, 1) := by decide +kernel
theorem dX7_apart_4 : decode cX7_apart 4 = .ok (.iconst 0, 1) := by decide +kernel
theorem dX7_apart_5 : decode cX7_apart 5 = .ok (.istore_n 3, 1) := by decide +kernel
theorem dX7_apart_6 : decode cX7_apart 6 = .ok (.iload_n 3, 1) := by decide +kernel
theorem dX7_apart_7 : decode cX7_apart 7 = .ok (.iload_n 1, 1) := by decide +kernel
theorem dX7_apart_8 : decode cX7_apart 8 = .ok (.if_icmp .ge 124, 3) := by decide +kernel
theorem dX7_apart_11 : decode cX7_apart 11 = .ok (.iconst 0, 1) := by decide +kernel
theorem dX7_apart_12 : decode cX7_apart 12 = .ok (.istore 4, 2) := by decide +kernel
theorem dX7_apart_14 : decode cX7_apart 14 = .ok (.iload 4, 2) := by decide +kernel
theorem dX7_apart_16 : decode cX7_apart 16 = .ok (.iload_n 3, 1) := by decide +kernel
theorem dX7_apart_17 : decode cX7_apart 17 = .ok (.if_icmp .ge 50, 3) := by decide +kernel
theorem dX7_apart_20 : decode cX7_apart 20 = .ok (.aload_n 0, 1) := by decide +kernel
theorem dX7_apart_21 : decode cX7_apart 21 = .ok (.getfield 65, 3) := by decide +kernel
theorem dX7_apart_24 : decode cX7_apart 24 = .ok (.iload_n 3, 1) := by decide +kernel
theorem dX7_apart_25 : decode cX7_apart 25 = .ok (.iaload, 1) := by decide +kernel
theorem dX7_apart_26 : decode cX7_apart 26 = .ok (.aload_n 0, 1) := by decide +kernel
theorem dX7_apart_27 : decode cX7_apart 27 = .ok (.getfield 65, 3) := by decide +kernel
theorem dX7_apart_30 : decode cX7_apart 30 = .ok (.iload 4, 2) := by decide +kernel
theorem dX7_apart_32 : decode cX7_apart 32 = .ok (.iaload, 1) := by decide +kernel
theorem dX7_apart_33 : decode cX7_apart 33 = .ok (.invokestatic 167, 3) := by decide +kernel
theorem dX7_apart_36 : decode cX7_apart 36 = .ok (.iload_n 2, 1) := by decide +kernel
theorem dX7_apart_37 : decode cX7_apart 37 = .ok (.if_icmp .ge 22, 3) := by decide +kernel
theorem dX7_apart_40 : decode cX7_apart 40 = .ok (.aload_n 0, 1) := by decide +kernel
theorem dX7_apart_41 : decode cX7_apart 41 = .ok (.getfield 65, 3) := by decide +kernel
theorem dX7_apart_44 : decode cX7_apart 44 = .ok (.iload_n 3, 1) := by decide +kernel
theorem dX7_apart_45 : decode cX7_apart 45 = .ok (.iaload, 1) := by decide +kernel
theorem dX7_apart_46 : decode cX7_apart 46 = .ok (.aload_n 0, 1) := by decide +kernel
theorem dX7_apart_47 : decode cX7_apart 47 = .ok (.getfield 65, 3) := by decide +kernel
theorem dX7_apart_50 : decode cX7_apart 50 = .ok (.iload 4, 2) := by decide +kernel
theorem dX7_apart_52 : decode cX7_apart 52 = .ok (.iaload, 1) := by decide +kernel
theorem dX7_apart_53 : decode cX7_apart 53 = .ok (.invokestatic 167, 3) := by decide +kernel
theorem dX7_apart_56 : decode cX7_apart 56 = .ok (.goto 4, 3) := by decide +kernel
theorem dX7_apart_59 : decode cX7_apart 59 = .ok (.iload_n 2, 1) := by decide +kernel
theorem dX7_apart_60 : decode cX7_apart 60 = .ok (.istore_n 2, 1) := by decide +kernel
theorem dX7_apart_61 : decode cX7_apart 61 = .ok (.iinc 4 1, 3) := by decide +kernel
theorem dX7_apart_64 : decode cX7_apart 64 = .ok (.goto (-50), 3) := by decide +kernel
theorem dX7_apart_67 : decode cX7_apart 67 = .ok (.iconst 0, 1) := by decide +kernel
theorem dX7_apart_68 : decode cX7_apart 68 = .ok (.istore 4, 2) := by decide +kernel
theorem dX7_apart_70 : decode cX7_apart 70 = .ok (.iload 4, 2) := by decide +kernel
theorem dX7_apart_72 : decode cX7_apart 72 = .ok (.aload_n 0, 1) := by decide +kernel
theorem dX7_apart_73 : decode cX7_apart 73 = .ok (.getfield 75, 3) := by decide +kernel
theorem dX7_apart_76 : decode cX7_apart 76 = .ok (.if_icmp .ge 50, 3) := by decide +kernel
theorem dX7_apart_79 : decode cX7_apart 79 = .ok (.aload_n 0, 1) := by decide +kernel
theorem dX7_apart_80 : decode cX7_apart 80 = .ok (.getfield 65, 3) := by decide +kernel
theorem dX7_apart_83 : decode cX7_apart 83 = .ok (.iload_n 3, 1) := by decide +kernel
theorem dX7_apart_84 : decode cX7_apart 84 = .ok (.iaload, 1) := by decide +kernel
theorem dX7_apart_85 : decode cX7_apart 85 = .ok (.aload_n 0, 1) := by decide +kernel
theorem dX7_apart_86 : decode cX7_apart 86 = .ok (.getfield 16, 3) := by decide +kernel
theorem dX7_apart_89 : decode cX7_apart 89 = .ok (.iload 4, 2) := by decide +kernel
theorem dX7_apart_91 : decode cX7_apart 91 = .ok (.iaload, 1) := by decide +kernel
theorem dX7_apart_92 : decode cX7_apart 92 = .ok (.invokestatic 167, 3) := by decide +kernel
theorem dX7_apart_95 : decode cX7_apart 95 = .ok (.iload_n 2, 1) := by decide +kernel
theorem dX7_apart_96 : decode cX7_apart 96 = .ok (.if_icmp .ge 22, 3) := by decide +kernel
theorem dX7_apart_99 : decode cX7_apart 99 = .ok (.aload_n 0, 1) := by decide +kernel
theorem dX7_apart_100 : decode cX7_apart 100 = .ok (.getfield 65, 3) := by decide +kernel
theorem dX7_apart_103 : decode cX7_apart 103 = .ok (.iload_n 3, 1) := by decide +kernel
theorem dX7_apart_104 : decode cX7_apart 104 = .ok (.iaload, 1) := by decide +kernel
theorem dX7_apart_105 : decode cX7_apart 105 = .ok (.aload_n 0, 1) := by decide +kernel
theorem dX7_apart_106 : decode cX7_apart 106 = .ok (.getfield 16, 3) := by decide +kernel
theorem dX7_apart_109 : decode cX7_apart 109 = .ok (.iload 4, 2) := by decide +kernel
theorem dX7_apart_111 : decode cX7_apart 111 = .ok (.iaload, 1) := by decide +kernel
theorem dX7_apart_112 : decode cX7_apart 112 = .ok (.invokestatic 167, 3) := by decide +kernel
theorem dX7_apart_115 : decode cX7_apart 115 = .ok (.goto 4, 3) := by decide +kernel
theorem dX7_apart_118 : decode cX7_apart 118 = .ok (.iload_n 2, 1) := by decide +kernel
theorem dX7_apart_119 : decode cX7_apart 119 = .ok (.istore_n 2, 1) := by decide +kernel
theorem dX7_apart_120 : decode cX7_apart 120 = .ok (.iinc 4 1, 3) := by decide +kernel
theorem dX7_apart_123 : decode cX7_apart 123 = .ok (.goto (-53), 3) := by decide +kernel
theorem dX7_apart_126 : decode cX7_apart 126 = .ok (.iinc 3 1, 3) := by decide +kernel
theorem dX7_apart_129 : decode cX7_apart 129 = .ok (.goto (-123), 3) := by decide +kernel
theorem dX7_apart_132 : decode cX7_apart 132 = .ok (.iload_n 2, 1) := by decide +kernel
theorem dX7_apart_133 : decode cX7_apart 133 = .ok (.ireturn, 1) := by decide +kernel
set_option maxRecDepth 20000 in
theorem ggX7_findTables_X7_isTaken : GoodIn wsX7_findTables wsX7_isTaken := goodIn_r _ [8, 9, 10, 18, 19, 20, 21, 22, 23, 24, 25, 26, 27, 28, 29, 30, 31, 32, 33, 34, 35, 36, 37, 38, 39, 40, 41, 42, 43, 44, 45, 46, 47, 48, 49, 50, 51, 52, 53, 54, 55, 56, 57] (by decide +kernel) (by decide +kernel)
set_option maxRecDepth 20000 in
theorem gX7_findTables_X7_isTaken : GoodIn wsX7_findTables (wsV RX7 216 RX7 yX7_isTaken wsX7_isTaken) := goodIn_app (goodIn_of _ (by decide +kernel)) ggX7_findTables_X7_isTaken
set_option maxRecDepth 20000 in
theorem ggX7_findTables_X7_apart : GoodIn wsX7_findTables wsX7_apart := goodIn_r _ [14, 2, 9, 10, 15, 16, 7, 17, 18, 19, 20, 21, 22, 23, 24, 25, 26, 27, 28, 29, 30, 31, 32, 33, 34, 35, 36, 37, 38, 39, 40, 41, 42, 43, 44, 45, 46, 47, 48, 49, 50, 51, 52, 53, 54, 55, 56, 57] (by decide +kernel) (by decide +kernel)
set_option maxRecDepth 20000 in
theorem gX7_findTables_X7_apart : GoodIn wsX7_findTables (wsV RX7 247 RX7 yX7_apart wsX7_apart) := goodIn_app (goodIn_of _ (by decide +kernel)) ggX7_findTables_X7_apart
theorem dX7_findTables_0 : decode cX7_findTables 0 = .ok (.iconst 0, 1) := by decide +kernel
theorem dX7_findTables_1 : decode cX7_findTables 1 = .ok (.istore 4, 2) := by decide +kernel
theorem dX7_findTables_3 : decode cX7_findTables 3 = .ok (.iconst 0, 1) := by decide +kernel
theorem dX7_findTables_4 : decode cX7_findTables 4 = .ok (.istore 5, 2) := by decide +kernel
theorem dX7_findTables_6 : decode cX7_findTables 6 = .ok (.iload 5, 2) := by decide +kernel
theorem dX7_findTables_8 : decode cX7_findTables 8 = .ok (.bipush 10, 2) := by decide +kernel
theorem dX7_findTables_10 : decode cX7_findTables 10 = .ok (.if_icmp .ge 53, 3) := by decide +kernel
theorem dX7_findTables_13 : decode cX7_findTables 13 = .ok (.iload_n 2, 1) := by decide +kernel
theorem dX7_findTables_14 : decode cX7_findTables 14 = .ok (.ifCond .eq 13, 3) := by decide +kernel
theorem dX7_findTables_17 : decode cX7_findTables 17 = .ok (.bipush 10, 2) := by decide +kernel
theorem dX7_findTables_19 : decode cX7_findTables 19 = .ok (.iload 5, 2) := by decide +kernel
theorem dX7_findTables_21 : decode cX7_findTables 21 = .ok (.imul, 1) := by decide +kernel
theorem dX7_findTables_22 : decode cX7_findTables 22 = .ok (.iload_n 3, 1) := by decide +kernel
theorem dX7_findTables_23 : decode cX7_findTables 23 = .ok (.iadd, 1) := by decide +kernel
theorem dX7_findTables_24 : decode cX7_findTables 24 = .ok (.goto 10, 3) := by decide +kernel
theorem dX7_findTables_27 : decode cX7_findTables 27 = .ok (.bipush 10, 2) := by decide +kernel
theorem dX7_findTables_29 : decode cX7_findTables 29 = .ok (.iload_n 3, 1) := by decide +kernel
theorem dX7_findTables_30 : decode cX7_findTables 30 = .ok (.imul, 1) := by decide +kernel
theorem dX7_findTables_31 : decode cX7_findTables 31 = .ok (.iload 5, 2) := by decide +kernel
theorem dX7_findTables_33 : decode cX7_findTables 33 = .ok (.iadd, 1) := by decide +kernel
theorem dX7_findTables_34 : decode cX7_findTables 34 = .ok (.istore 6, 2) := by decide +kernel
theorem dX7_findTables_36 : decode cX7_findTables 36 = .ok (.aload_n 0, 1) := by decide +kernel
theorem dX7_findTables_37 : decode cX7_findTables 37 = .ok (.iload 6, 2) := by decide +kernel
theorem dX7_findTables_39 : decode cX7_findTables 39 = .ok (.invokevirtual 216, 3) := by decide +kernel
theorem dX7_findTables_42 : decode cX7_findTables 42 = .ok (.ifCond .ne 15, 3) := by decide +kernel
theorem dX7_findTables_45 : decode cX7_findTables 45 = .ok (.aload_n 0, 1) := by decide +kernel
theorem dX7_findTables_46 : decode cX7_findTables 46 = .ok (.getfield 62, 3) := by decide +kernel
theorem dX7_findTables_49 : decode cX7_findTables 49 = .ok (.iload 4, 2) := by decide +kernel
theorem dX7_findTables_51 : decode cX7_findTables 51 = .ok (.iload 6, 2) := by decide +kernel
theorem dX7_findTables_53 : decode cX7_findTables 53 = .ok (.iastore, 1) := by decide +kernel
theorem dX7_findTables_54 : decode cX7_findTables 54 = .ok (.iinc 4 1, 3) := by decide +kernel
theorem dX7_findTables_57 : decode cX7_findTables 57 = .ok (.iinc 5 1, 3) := by decide +kernel
theorem dX7_findTables_60 : decode cX7_findTables 60 = .ok (.goto (-54), 3) := by decide +kernel
theorem dX7_findTables_63 : decode cX7_findTables 63 = .ok (.bipush (-9), 2) := by decide +kernel
theorem dX7_findTables_65 : decode cX7_findTables 65 = .ok (.istore 5, 2) := by decide +kernel
theorem dX7_findTables_67 : decode cX7_findTables 67 = .ok (.iload_n 1, 1) := by decide +kernel
theorem dX7_findTables_68 : decode cX7_findTables 68 = .ok (.iconst 1, 1) := by decide +kernel
theorem dX7_findTables_69 : decode cX7_findTables 69 = .ok (.if_icmp .ne 8, 3) := by decide +kernel
theorem dX7_findTables_72 : decode cX7_findTables 72 = .ok (.bipush 10, 2) := by decide +kernel
theorem dX7_findTables_74 : decode cX7_findTables 74 = .ok (.goto 27, 3) := by decide +kernel
theorem dX7_findTables_77 : decode cX7_findTables 77 = .ok (.iload_n 1, 1) := by decide +kernel
theorem dX7_findTables_78 : decode cX7_findTables 78 = .ok (.iconst 2, 1) := by decide +kernel
theorem dX7_findTables_79 : decode cX7_findTables 79 = .ok (.if_icmp .ne 8, 3) := by decide +kernel
theorem dX7_findTables_82 : decode cX7_findTables 82 = .ok (.bipush 100, 2) := by decide +kernel
theorem dX7_findTables_84 : decode cX7_findTables 84 = .ok (.goto 17, 3) := by decide +kernel
theorem dX7_findTables_87 : decode cX7_findTables 87 = .ok (.iload_n 1, 1) := by decide +kernel
theorem dX7_findTables_88 : decode cX7_findTables 88 = .ok (.iconst 3, 1) := by decide +kernel
theorem dX7_findTables_89 : decode cX7_findTables 89 = .ok (.if_icmp .ne 9, 3) := by decide +kernel
theorem dX7_findTables_92 : decode cX7_findTables 92 = .ok (.sipush 1000, 3) := by decide +kernel
theorem dX7_findTables_95 : decode cX7_findTables 95 = .ok (.goto 6, 3) := by decide +kernel
theorem dX7_findTables_98 : decode cX7_findTables 98 = .ok (.sipush 10000, 3) := by decide +kernel
theorem dX7_findTables_101 : decode cX7_findTables 101 = .ok (.istore 6, 2) := by decide +kernel
theorem dX7_findTables_103 : decode cX7_findTables 103 = .ok (.iconst 0, 1) := by decide +kernel
theorem dX7_findTables_104 : decode cX7_findTables 104 = .ok (.istore 7, 2) := by decide +kernel
theorem dX7_findTables_106 : decode cX7_findTables 106 = .ok (.iload 7, 2) := by decide +kernel
theorem dX7_findTables_108 : decode cX7_findTables 108 = .ok (.iload 6, 2) := by decide +kernel
theorem dX7_findTables_110 : decode cX7_findTables 110 = .ok (.if_icmp .ge 155, 3) := by decide +kernel
theorem dX7_findTables_113 : decode cX7_findTables 113 = .ok (.iload 6, 2) := by decide +kernel
theorem dX7_findTables_115 : decode cX7_findTables 115 = .ok (.istore 8, 2) := by decide +kernel
theorem dX7_findTables_117 : decode cX7_findTables 117 = .ok (.iconst (-1), 1) := by decide +kernel
theorem dX7_findTables_118 : decode cX7_findTables 118 = .ok (.istore 9, 2) := by decide +kernel
theorem dX7_findTables_120 : decode cX7_findTables 120 = .ok (.iconst 1, 1) := by decide +kernel
theorem dX7_findTables_121 : decode cX7_findTables 121 = .ok (.istore 10, 2) := by decide +kernel
theorem dX7_findTables_123 : decode cX7_findTables 123 = .ok (.iconst 0, 1) := by decide +kernel
theorem dX7_findTables_124 : decode cX7_findTables 124 = .ok (.istore 11, 2) := by decide +kernel
theorem dX7_findTables_126 : decode cX7_findTables 126 = .ok (.iload 11, 2) := by decide +kernel
theorem dX7_findTables_128 : decode cX7_findTables 128 = .ok (.iload_n 1, 1) := by decide +kernel
theorem dX7_findTables_129 : decode cX7_findTables 129 = .ok (.if_icmp .ge 79, 3) := by decide +kernel
theorem dX7_findTables_132 : decode cX7_findTables 132 = .ok (.iload 10, 2) := by decide +kernel
theorem dX7_findTables_134 : decode cX7_findTables 134 = .ok (.ifCond .eq 74, 3) := by decide +kernel
theorem dX7_findTables_137 : decode cX7_findTables 137 = .ok (.iload 8, 2) := by decide +kernel
theorem dX7_findTables_139 : decode cX7_findTables 139 = .ok (.bipush 10, 2) := by decide +kernel
theorem dX7_findTables_141 : decode cX7_findTables 141 = .ok (.idiv, 1) := by decide +kernel
theorem dX7_findTables_142 : decode cX7_findTables 142 = .ok (.istore 8, 2) := by decide +kernel
theorem dX7_findTables_144 : decode cX7_findTables 144 = .ok (.iload 7, 2) := by decide +kernel
theorem dX7_findTables_146 : decode cX7_findTables 146 = .ok (.iload 8, 2) := by decide +kernel
theorem dX7_findTables_148 : decode cX7_findTables 148 = .ok (.idiv, 1) := by decide +kernel
theorem dX7_findTables_149 : decode cX7_findTables 149 = .ok (.bipush 10, 2) := by decide +kernel
theorem dX7_findTables_151 : decode cX7_findTables 151 = .ok (.irem, 1) := by decide +kernel
theorem dX7_findTables_152 : decode cX7_findTables 152 = .ok (.istore 12, 2) := by decide +kernel
theorem dX7_findTables_154 : decode cX7_findTables 154 = .ok (.iload 12, 2) := by decide +kernel
theorem dX7_findTables_156 : decode cX7_findTables 156 = .ok (.iload 9, 2) := by decide +kernel
theorem dX7_findTables_158 : decode cX7_findTables 158 = .ok (.if_icmp .le 14, 3) := by decide +kernel
theorem dX7_findTables_161 : decode cX7_findTables 161 = .ok (.iload 12, 2) := by decide +kernel
theorem dX7_findTables_163 : decode cX7_findTables 163 = .ok (.iload 4, 2) := by decide +kernel
theorem dX7_findTables_165 : decode cX7_findTables 165 = .ok (.if_icmp .ge 7, 3) := by decide +kernel
theorem dX7_findTables_168 : decode cX7_findTables 168 = .ok (.iconst 1, 1) := by decide +kernel
theorem dX7_findTables_169 : decode cX7_findTables 169 = .ok (.goto 4, 3) := by decide +kernel
theorem dX7_findTables_172 : decode cX7_findTables 172 = .ok (.iconst 0, 1) := by decide +kernel
theorem dX7_findTables_173 : decode cX7_findTables 173 = .ok (.istore 10, 2) := by decide +kernel
theorem dX7_findTables_175 : decode cX7_findTables 175 = .ok (.iload 12, 2) := by decide +kernel
theorem dX7_findTables_177 : decode cX7_findTables 177 = .ok (.istore 9, 2) := by decide +kernel
theorem dX7_findTables_179 : decode cX7_findTables 179 = .ok (.aload_n 0, 1) := by decide +kernel
theorem dX7_findTables_180 : decode cX7_findTables 180 = .ok (.getfield 65, 3) := by decide +kernel
theorem dX7_findTables_183 : decode cX7_findTables 183 = .ok (.iload 11, 2) := by decide +kernel
theorem dX7_findTables_185 : decode cX7_findTables 185 = .ok (.iload 10, 2) := by decide +kernel
theorem dX7_findTables_187 : decode cX7_findTables 187 = .ok (.ifCond .eq 13, 3) := by decide +kernel
theorem dX7_findTables_190 : decode cX7_findTables 190 = .ok (.aload_n 0, 1) := by decide +kernel
theorem dX7_findTables_191 : decode cX7_findTables 191 = .ok (.getfield 62, 3) := by decide +kernel
theorem dX7_findTables_194 : decode cX7_findTables 194 = .ok (.iload 12, 2) := by decide +kernel
theorem dX7_findTables_196 : decode cX7_findTables 196 = .ok (.iaload, 1) := by decide +kernel
theorem dX7_findTables_197 : decode cX7_findTables 197 = .ok (.goto 4, 3) := by decide +kernel
theorem dX7_findTables_200 : decode cX7_findTables 200 = .ok (.iconst 0, 1) := by decide +kernel
theorem dX7_findTables_201 : decode cX7_findTables 201 = .ok (.iastore, 1) := by decide +kernel
theorem dX7_findTables_202 : decode cX7_findTables 202 = .ok (.iinc 11 1, 3) := by decide +kernel
theorem dX7_findTables_205 : decode cX7_findTables 205 = .ok (.goto (-79), 3) := by decide +kernel
theorem dX7_findTables_208 : decode cX7_findTables 208 = .ok (.iload 10, 2) := by decide +kernel
theorem dX7_findTables_210 : decode cX7_findTables 210 = .ok (.ifCond .eq 49, 3) := by decide +kernel
theorem dX7_findTables_213 : decode cX7_findTables 213 = .ok (.aload_n 0, 1) := by decide +kernel
theorem dX7_findTables_214 : decode cX7_findTables 214 = .ok (.iload_n 1, 1) := by decide +kernel
theorem dX7_findTables_215 : decode cX7_findTables 215 = .ok (.invokevirtual 247, 3) := by decide +kernel
theorem dX7_findTables_218 : decode cX7_findTables 218 = .ok (.iload 5, 2) := by decide +kernel
theorem dX7_findTables_220 : decode cX7_findTables 220 = .ok (.if_icmp .le 39, 3) := by decide +kernel
theorem dX7_findTables_223 : decode cX7_findTables 223 = .ok (.aload_n 0, 1) := by decide +kernel
theorem dX7_findTables_224 : decode cX7_findTables 224 = .ok (.iload_n 1, 1) := by decide +kernel
theorem dX7_findTables_225 : decode cX7_findTables 225 = .ok (.invokevirtual 247, 3) := by decide +kernel
theorem dX7_findTables_228 : decode cX7_findTables 228 = .ok (.istore 5, 2) := by decide +kernel
theorem dX7_findTables_230 : decode cX7_findTables 230 = .ok (.iconst 0, 1) := by decide +kernel
theorem dX7_findTables_231 : decode cX7_findTables 231 = .ok (.istore 11, 2) := by decide +kernel
theorem dX7_findTables_233 : decode cX7_findTables 233 = .ok (.iload 11, 2) := by decide +kernel
theorem dX7_findTables_235 : decode cX7_findTables 235 = .ok (.iload_n 1, 1) := by decide +kernel
theorem dX7_findTables_236 : decode cX7_findTables 236 = .ok (.if_icmp .ge 23, 3) := by decide +kernel
theorem dX7_findTables_239 : decode cX7_findTables 239 = .ok (.aload_n 0, 1) := by decide +kernel
theorem dX7_findTables_240 : decode cX7_findTables 240 = .ok (.getfield 68, 3) := by decide +kernel
theorem dX7_findTables_243 : decode cX7_findTables 243 = .ok (.iload 11, 2) := by decide +kernel
theorem dX7_findTables_245 : decode cX7_findTables 245 = .ok (.aload_n 0, 1) := by decide +kernel
theorem dX7_findTables_246 : decode cX7_findTables 246 = .ok (.getfield 65, 3) := by decide +kernel
theorem dX7_findTables_249 : decode cX7_findTables 249 = .ok (.iload 11, 2) := by decide +kernel
theorem dX7_findTables_251 : decode cX7_findTables 251 = .ok (.iaload, 1) := by decide +kernel
theorem dX7_findTables_252 : decode cX7_findTables 252 = .ok (.iastore, 1) := by decide +kernel
theorem dX7_findTables_253 : decode cX7_findTables 253 = .ok (.iinc 11 1, 3) := by decide +kernel
theorem dX7_findTables_256 : decode cX7_findTables 256 = .ok (.goto (-23), 3) := by decide +kernel
theorem dX7_findTables_259 : decode cX7_findTables 259 = .ok (.iinc 7 1, 3) := by decide +kernel
theorem dX7_findTables_262 : decode cX7_findTables 262 = .ok (.goto (-156), 3) := by decide +kernel
theorem dX7_findTables_265 : decode cX7_findTables 265 = .ok (.iload 5, 2) := by decide +kernel
theorem dX7_findTables_267 : decode cX7_findTables 267 = .ok (.ireturn, 1) := by decide +kernel
set_option maxRecDepth 20000 in
theorem ggX7_tables_X7_in : GoodIn wsX7_tables wsX7_in := goodIn_r _ [7] (by decide +kernel) (by decide +kernel)
set_option maxRecDepth 20000 in
theorem gX7_tables_X7_in : GoodIn wsX7_tables (va_wsS RX7 78 yX7_in wsX7_in) := goodIn_app (goodIn_of _ (by decide +kernel)) ggX7_tables_X7_in
set_option maxRecDepth 20000 in
theorem ggX7_tables_X7_findTables : GoodIn wsX7_tables wsX7_findTables := goodIn_r _ [11, 12, 13, 14, 15, 16, 17, 6, 18, 19, 20, 21, 22, 23, 24, 25, 26, 27, 28, 29, 30, 31, 32, 33, 34, 35, 36, 37, 38, 39, 40, 41, 42, 43, 44, 45, 46, 47, 48, 49, 50, 51, 52, 53, 54, 55, 56, 57, 58, 59, 60, 61, 62, 63, 64, 65, 66, 67] (by decide +kernel) (by decide +kernel)
set_option maxRecDepth 20000 in
theorem gX7_tables_X7_findTables : GoodIn wsX7_tables (wsV RX7 252 RX7 yX7_findTables wsX7_findTables) := goodIn_app (goodIn_of _ (by decide +kernel)) ggX7_tables_X7_findTables
theorem dX7_tables_0 : decode cX7_tables 0 = .ok (.aload_n 0, 1) := by decide +kernel
theorem dX7_tables_1 : decode cX7_tables 1 = .ok (.iconst 0, 1) := by decide +kernel
theorem dX7_tables_2 : decode cX7_tables 2 = .ok (.putfield 71, 3) := by decide +kernel
theorem dX7_tables_5 : decode cX7_tables 5 = .ok (.iload_n 1, 1) := by decide +kernel
theorem dX7_tables_6 : decode cX7_tables 6 = .ok (.i2l, 1) := by decide +kernel
theorem dX7_tables_7 : decode cX7_tables 7 = .ok (.lconst 1, 1) := by decide +kernel
theorem dX7_tables_8 : decode cX7_tables 8 = .ok (.ldc2_w 250, 3) := by decide +kernel
theorem dX7_tables_11 : decode cX7_tables 11 = .ok (.invokestatic 78, 3) := by decide +kernel
theorem dX7_tables_14 : decode cX7_tables 14 = .ok (.ifCond .eq 25, 3) := by decide +kernel
theorem dX7_tables_17 : decode cX7_tables 17 = .ok (.iload_n 3, 1) := by decide +kernel
theorem dX7_tables_18 : decode cX7_tables 18 = .ok (.i2l, 1) := by decide +kernel
theorem dX7_tables_19 : decode cX7_tables 19 = .ok (.lconst 0, 1) := by decide +kernel
theorem dX7_tables_20 : decode cX7_tables 20 = .ok (.ldc2_w 204, 3) := by decide +kernel
theorem dX7_tables_23 : decode cX7_tables 23 = .ok (.invokestatic 78, 3) := by decide +kernel
theorem dX7_tables_26 : decode cX7_tables 26 = .ok (.ifCond .eq 13, 3) := by decide +kernel
theorem dX7_tables_29 : decode cX7_tables 29 = .ok (.aload_n 0, 1) := by decide +kernel
theorem dX7_tables_30 : decode cX7_tables 30 = .ok (.iload_n 1, 1) := by decide +kernel
theorem dX7_tables_31 : decode cX7_tables 31 = .ok (.iload_n 2, 1) := by decide +kernel
theorem dX7_tables_32 : decode cX7_tables 32 = .ok (.iload_n 3, 1) := by decide +kernel
theorem dX7_tables_33 : decode cX7_tables 33 = .ok (.invokevirtual 252, 3) := by decide +kernel
theorem dX7_tables_36 : decode cX7_tables 36 = .ok (.goto 5, 3) := by decide +kernel
theorem dX7_tables_39 : decode cX7_tables 39 = .ok (.bipush (-2), 2) := by decide +kernel
theorem dX7_tables_41 : decode cX7_tables 41 = .ok (.ireturn, 1) := by decide +kernel
set_option maxRecDepth 20000 in
theorem ggX7_tableAt_X7_in : GoodIn wsX7_tableAt wsX7_in := goodIn_r _ [8] (by decide +kernel) (by decide +kernel)
set_option maxRecDepth 20000 in
theorem gX7_tableAt_X7_in : GoodIn wsX7_tableAt (va_wsS RX7 78 yX7_in wsX7_in) := goodIn_app (goodIn_of _ (by decide +kernel)) ggX7_tableAt_X7_in
set_option maxRecDepth 20000 in
theorem ggX7_tableAt_X7_findTables : GoodIn wsX7_tableAt wsX7_findTables := goodIn_r _ [12, 13, 14, 4, 15, 16, 17, 7, 18, 19, 20, 21, 22, 23, 24, 25, 26, 27, 28, 29, 30, 31, 32, 33, 34, 35, 36, 37, 38, 39, 40, 41, 42, 43, 44, 45, 46, 47, 48, 49, 50, 51, 52, 53, 54, 55, 56, 57, 58, 59, 60, 61, 62, 63, 64, 65, 66, 67] (by decide +kernel) (by decide +kernel)
set_option maxRecDepth 20000 in
theorem gX7_tableAt_X7_findTables : GoodIn wsX7_tableAt (wsV RX7 252 RX7 yX7_findTables wsX7_findTables) := goodIn_app (goodIn_of _ (by decide +kernel)) ggX7_tableAt_X7_findTables
theorem dX7_tableAt_0 : decode cX7_tableAt 0 = .ok (.aload_n 0, 1) := by decide +kernel
theorem dX7_tableAt_1 : decode cX7_tableAt 1 = .ok (.iconst 0, 1) := by decide +kernel
theorem dX7_tableAt_2 : decode cX7_tableAt 2 = .ok (.putfield 71, 3) := by decide +kernel
theorem dX7_tableAt_5 : decode cX7_tableAt 5 = .ok (.iload_n 1, 1) := by decide +kernel
theorem dX7_tableAt_6 : decode cX7_tableAt 6 = .ok (.i2l, 1) := by decide +kernel
theorem dX7_tableAt_7 : decode cX7_tableAt 7 = .ok (.lconst 1, 1) := by decide +kernel
theorem dX7_tableAt_8 : decode cX7_tableAt 8 = .ok (.ldc2_w 250, 3) := by decide +kernel
theorem dX7_tableAt_11 : decode cX7_tableAt 11 = .ok (.invokestatic 78, 3) := by decide +kernel
theorem dX7_tableAt_14 : decode cX7_tableAt 14 = .ok (.ifCond .eq 15, 3) := by decide +kernel
theorem dX7_tableAt_17 : decode cX7_tableAt 17 = .ok (.iload_n 3, 1) := by decide +kernel
theorem dX7_tableAt_18 : decode cX7_tableAt 18 = .ok (.i2l, 1) := by decide +kernel
theorem dX7_tableAt_19 : decode cX7_tableAt 19 = .ok (.lconst 0, 1) := by decide +kernel
theorem dX7_tableAt_20 : decode cX7_tableAt 20 = .ok (.ldc2_w 204, 3) := by decide +kernel
theorem dX7_tableAt_23 : decode cX7_tableAt 23 = .ok (.invokestatic 78, 3) := by decide +kernel
theorem dX7_tableAt_26 : decode cX7_tableAt 26 = .ok (.ifCond .ne 6, 3) := by decide +kernel
theorem dX7_tableAt_29 : decode cX7_tableAt 29 = .ok (.bipush (-2), 2) := by decide +kernel
theorem dX7_tableAt_31 : decode cX7_tableAt 31 = .ok (.ireturn, 1) := by decide +kernel
theorem dX7_tableAt_32 : decode cX7_tableAt 32 = .ok (.aload_n 0, 1) := by decide +kernel
theorem dX7_tableAt_33 : decode cX7_tableAt 33 = .ok (.iload_n 1, 1) := by decide +kernel
theorem dX7_tableAt_34 : decode cX7_tableAt 34 = .ok (.iload_n 2, 1) := by decide +kernel
theorem dX7_tableAt_35 : decode cX7_tableAt 35 = .ok (.iload_n 3, 1) := by decide +kernel
theorem dX7_tableAt_36 : decode cX7_tableAt 36 = .ok (.invokevirtual 252, 3) := by decide +kernel
theorem dX7_tableAt_39 : decode cX7_tableAt 39 = .ok (.bipush (-9), 2) := by decide +kernel
theorem dX7_tableAt_41 : decode cX7_tableAt 41 = .ok (.if_icmp .eq 27, 3) := by decide +kernel
theorem dX7_tableAt_44 : decode cX7_tableAt 44 = .ok (.iload 4, 2) := by decide +kernel
theorem dX7_tableAt_46 : decode cX7_tableAt 46 = .ok (.i2l, 1) := by decide +kernel
theorem dX7_tableAt_47 : decode cX7_tableAt 47 = .ok (.lconst 0, 1) := by decide +kernel
theorem dX7_tableAt_48 : decode cX7_tableAt 48 = .ok (.iload_n 1, 1) := by decide +kernel
theorem dX7_tableAt_49 : decode cX7_tableAt 49 = .ok (.iconst 1, 1) := by decide +kernel
theorem dX7_tableAt_50 : decode cX7_tableAt 50 = .ok (.isub, 1) := by decide +kernel
theorem dX7_tableAt_51 : decode cX7_tableAt 51 = .ok (.i2l, 1) := by decide +kernel
theorem dX7_tableAt_52 : decode cX7_tableAt 52 = .ok (.invokestatic 78, 3) := by decide +kernel
theorem dX7_tableAt_55 : decode cX7_tableAt 55 = .ok (.ifCond .eq 13, 3) := by decide +kernel
theorem dX7_tableAt_58 : decode cX7_tableAt 58 = .ok (.aload_n 0, 1) := by decide +kernel
theorem dX7_tableAt_59 : decode cX7_tableAt 59 = .ok (.getfield 68, 3) := by decide +kernel
theorem dX7_tableAt_62 : decode cX7_tableAt 62 = .ok (.iload 4, 2) := by decide +kernel
theorem dX7_tableAt_64 : decode cX7_tableAt 64 = .ok (.iaload, 1) := by decide +kernel
theorem dX7_tableAt_65 : decode cX7_tableAt 65 = .ok (.goto 5, 3) := by decide +kernel
theorem dX7_tableAt_68 : decode cX7_tableAt 68 = .ok (.bipush (-9), 2) := by decide +kernel
theorem dX7_tableAt_70 : decode cX7_tableAt 70 = .ok (.ireturn, 1) := by decide +kernel
theorem dX7_divisor_0 : decode cX7_divisor 0 = .ok (.lload_n 0, 1) := by decide +kernel
theorem dX7_divisor_1 : decode cX7_divisor 1 = .ok (.lstore 4, 2) := by decide +kernel
theorem dX7_divisor_3 : decode cX7_divisor 3 = .ok (.lload_n 2, 1) := by decide +kernel
theorem dX7_divisor_4 : decode cX7_divisor 4 = .ok (.lstore 6, 2) := by decide +kernel
theorem dX7_divisor_6 : decode cX7_divisor 6 = .ok (.lload 6, 2) := by decide +kernel
theorem dX7_divisor_8 : decode cX7_divisor 8 = .ok (.lconst 0, 1) := by decide +kernel
theorem dX7_divisor_9 : decode cX7_divisor 9 = .ok (.lcmp, 1) := by decide +kernel
theorem dX7_divisor_10 : decode cX7_divisor 10 = .ok (.ifCond .eq 21, 3) := by decide +kernel
theorem dX7_divisor_13 : decode cX7_divisor 13 = .ok (.lload 4, 2) := by decide +kernel
theorem dX7_divisor_15 : decode cX7_divisor 15 = .ok (.lload 6, 2) := by decide +kernel
theorem dX7_divisor_17 : decode cX7_divisor 17 = .ok (.lrem, 1) := by decide +kernel
theorem dX7_divisor_18 : decode cX7_divisor 18 = .ok (.lstore 8, 2) := by decide +kernel
theorem dX7_divisor_20 : decode cX7_divisor 20 = .ok (.lload 6, 2) := by decide +kernel
theorem dX7_divisor_22 : decode cX7_divisor 22 = .ok (.lstore 4, 2) := by decide +kernel
theorem dX7_divisor_24 : decode cX7_divisor 24 = .ok (.lload 8, 2) := by decide +kernel
theorem dX7_divisor_26 : decode cX7_divisor 26 = .ok (.lstore 6, 2) := by decide +kernel
theorem dX7_divisor_28 : decode cX7_divisor 28 = .ok (.goto (-22), 3) := by decide +kernel
theorem dX7_divisor_31 : decode cX7_divisor 31 = .ok (.lload 4, 2) := by decide +kernel
theorem dX7_divisor_33 : decode cX7_divisor 33 = .ok (.lreturn, 1) := by decide +kernel
set_option maxRecDepth 20000 in
theorem ggX7_chance_X7_noRing : GoodIn wsX7_chance wsX7_noRing := goodIn_r _ [11, 5, 12, 13, 10, 14, 77, 78, 79, 80, 81, 82, 83, 84, 85, 86, 87, 88, 89, 90, 91, 92, 93, 94, 95, 96, 97, 98, 99, 100, 101, 102, 103, 104, 105, 106, 107, 108, 109, 110, 111, 112, 113, 114, 115, 116] (by decide +kernel) (by decide +kernel)
set_option maxRecDepth 20000 in
theorem gX7_chance_X7_noRing : GoodIn wsX7_chance (wsV RX7 201 RX7 yX7_noRing wsX7_noRing) := goodIn_app (goodIn_of _ (by decide +kernel)) ggX7_chance_X7_noRing
set_option maxRecDepth 20000 in
theorem ggX7_chance_X7_in : GoodIn wsX7_chance wsX7_in := goodIn_r _ [14] (by decide +kernel) (by decide +kernel)
set_option maxRecDepth 20000 in
theorem gX7_chance_X7_in : GoodIn wsX7_chance (va_wsS RX7 78 yX7_in wsX7_in) := goodIn_app (goodIn_of _ (by decide +kernel)) ggX7_chance_X7_in
set_option maxRecDepth 20000 in
theorem ggX7_chance_X7_begin : GoodIn wsX7_chance wsX7_begin := goodIn_r _ [18, 5, 19, 20, 21, 22, 23, 24, 25, 6, 26, 27, 77, 78, 79, 80, 81, 82, 83, 84, 85, 86, 87, 88, 89, 90, 91, 92, 93, 94, 95, 96, 97, 98, 99, 100, 101, 102, 103, 104, 105, 106, 107, 108, 109, 110, 111, 112, 113, 114, 115, 116] (by decide +kernel) (by decide +kernel)
set_option maxRecDepth 20000 in
theorem gX7_chance_X7_begin : GoodIn wsX7_chance (wsV RX7 195 RX7 yX7_begin wsX7_begin) := goodIn_app (goodIn_of _ (by decide +kernel)) ggX7_chance_X7_begin
set_option maxRecDepth 20000 in
theorem ggX7_chance_X7_has : GoodIn wsX7_chance wsX7_has := goodIn_r _ [30] (by decide +kernel) (by decide +kernel)
set_option maxRecDepth 20000 in
theorem gX7_chance_X7_has : GoodIn wsX7_chance (va_wsS RX7 153 yX7_has wsX7_has) := goodIn_app (goodIn_of _ (by decide +kernel)) ggX7_chance_X7_has
set_option maxRecDepth 20000 in
theorem ggX7_chance_X7_hears : GoodIn wsX7_chance wsX7_hears := goodIn_r _ [34, 35, 36, 37, 38, 10, 39, 40, 6, 19, 28, 29, 30, 41, 42, 43, 44, 45, 46, 47, 48, 49, 23, 50, 51, 52, 53, 25, 54, 55, 56, 57, 58, 59, 60, 61, 22, 62, 63, 64, 65, 66, 67, 68, 69, 70, 71, 72, 73, 77, 78, 79, 80, 81, 82, 83, 84, 85, 86, 87, 88, 89, 90, 91, 92, 93, 94, 95, 96, 97, 98, 99, 100, 101, 102, 103, 104, 105, 106, 107, 108, 109, 110, 111, 112, 113, 114, 115, 116] (by decide +kernel) (by decide +kernel)
set_option maxRecDepth 20000 in
theorem gX7_chance_X7_hears : GoodIn wsX7_chance (wsV RX7 186 RX7 yX7_hears wsX7_hears) := goodIn_app (goodIn_of _ (by decide +kernel)) ggX7_chance_X7_hears
set_option maxRecDepth 20000 in
theorem ggX7_chance_X7_divisor : GoodIn wsX7_chance wsX7_divisor := goodIn_r _ [76] (by decide +kernel) (by decide +kernel)
set_option maxRecDepth 20000 in
theorem gX7_chance_X7_divisor : GoodIn wsX7_chance (va_wsS RX7 262 yX7_divisor wsX7_divisor) := goodIn_app (goodIn_of _ (by decide +kernel)) ggX7_chance_X7_divisor
theorem dX7_chance_0 : decode cX7_chance 0 = .ok (.aload_n 0, 1) := by decide +kernel
theorem dX7_chance_1 : decode cX7_chance 1 = .ok (.iconst 0, 1) := by decide +kernel
theorem dX7_chance_2 : decode cX7_chance 2 = .ok (.putfield 71, 3) := by decide +kernel
theorem dX7_chance_5 : decode cX7_chance 5 = .ok (.aload_n 0, 1) := by decide +kernel
theorem dX7_chance_6 : decode cX7_chance 6 = .ok (.iload_n 1, 1) := by decide +kernel
theorem dX7_chance_7 : decode cX7_chance 7 = .ok (.invokevirtual 201, 3) := by decide +kernel
theorem dX7_chance_10 : decode cX7_chance 10 = .ok (.ifCond .eq 7, 3) := by decide +kernel
theorem dX7_chance_13 : decode cX7_chance 13 = .ok (.ldc2_w 256, 3) := by decide +kernel
theorem dX7_chance_16 : decode cX7_chance 16 = .ok (.lreturn, 1) := by decide +kernel
theorem dX7_chance_17 : decode cX7_chance 17 = .ok (.iload_n 2, 1) := by decide +kernel
theorem dX7_chance_18 : decode cX7_chance 18 = .ok (.i2l, 1) := by decide +kernel
theorem dX7_chance_19 : decode cX7_chance 19 = .ok (.lconst 0, 1) := by decide +kernel
theorem dX7_chance_20 : decode cX7_chance 20 = .ok (.ldc2_w 258, 3) := by decide +kernel
theorem dX7_chance_23 : decode cX7_chance 23 = .ok (.invokestatic 78, 3) := by decide +kernel
theorem dX7_chance_26 : decode cX7_chance 26 = .ok (.ifCond .ne 7, 3) := by decide +kernel
theorem dX7_chance_29 : decode cX7_chance 29 = .ok (.ldc2_w 260, 3) := by decide +kernel
theorem dX7_chance_32 : decode cX7_chance 32 = .ok (.lreturn, 1) := by decide +kernel
theorem dX7_chance_33 : decode cX7_chance 33 = .ok (.aload_n 0, 1) := by decide +kernel
theorem dX7_chance_34 : decode cX7_chance 34 = .ok (.invokevirtual 195, 3) := by decide +kernel
theorem dX7_chance_37 : decode cX7_chance 37 = .ok (.lconst 0, 1) := by decide +kernel
theorem dX7_chance_38 : decode cX7_chance 38 = .ok (.lstore 4, 2) := by decide +kernel
theorem dX7_chance_40 : decode cX7_chance 40 = .ok (.lconst 1, 1) := by decide +kernel
theorem dX7_chance_41 : decode cX7_chance 41 = .ok (.lstore 6, 2) := by decide +kernel
theorem dX7_chance_43 : decode cX7_chance 43 = .ok (.iconst 0, 1) := by decide +kernel
theorem dX7_chance_44 : decode cX7_chance 44 = .ok (.istore 8, 2) := by decide +kernel
theorem dX7_chance_46 : decode cX7_chance 46 = .ok (.iload 8, 2) := by decide +kernel
theorem dX7_chance_48 : decode cX7_chance 48 = .ok (.aload_n 0, 1) := by decide +kernel
theorem dX7_chance_49 : decode cX7_chance 49 = .ok (.getfield 75, 3) := by decide +kernel
theorem dX7_chance_52 : decode cX7_chance 52 = .ok (.if_icmp .ge 27, 3) := by decide +kernel
theorem dX7_chance_55 : decode cX7_chance 55 = .ok (.lload 6, 2) := by decide +kernel
theorem dX7_chance_57 : decode cX7_chance 57 = .ok (.iload 8, 2) := by decide +kernel
theorem dX7_chance_59 : decode cX7_chance 59 = .ok (.iload_n 1, 1) := by decide +kernel
theorem dX7_chance_60 : decode cX7_chance 60 = .ok (.if_icmp .ne 7, 3) := by decide +kernel
theorem dX7_chance_63 : decode cX7_chance 63 = .ok (.lconst 1, 1) := by decide +kernel
theorem dX7_chance_64 : decode cX7_chance 64 = .ok (.goto 6, 3) := by decide +kernel
theorem dX7_chance_67 : decode cX7_chance 67 = .ok (.ldc2_w 258, 3) := by decide +kernel
theorem dX7_chance_70 : decode cX7_chance 70 = .ok (.lmul, 1) := by decide +kernel
theorem dX7_chance_71 : decode cX7_chance 71 = .ok (.lstore 6, 2) := by decide +kernel
theorem dX7_chance_73 : decode cX7_chance 73 = .ok (.iinc 8 1, 3) := by decide +kernel
theorem dX7_chance_76 : decode cX7_chance 76 = .ok (.goto (-30), 3) := by decide +kernel
theorem dX7_chance_79 : decode cX7_chance 79 = .ok (.iconst 0, 1) := by decide +kernel
theorem dX7_chance_80 : decode cX7_chance 80 = .ok (.istore 8, 2) := by decide +kernel
theorem dX7_chance_82 : decode cX7_chance 82 = .ok (.iload 8, 2) := by decide +kernel
theorem dX7_chance_84 : decode cX7_chance 84 = .ok (.iconst 1, 1) := by decide +kernel
theorem dX7_chance_85 : decode cX7_chance 85 = .ok (.aload_n 0, 1) := by decide +kernel
theorem dX7_chance_86 : decode cX7_chance 86 = .ok (.getfield 75, 3) := by decide +kernel
theorem dX7_chance_89 : decode cX7_chance 89 = .ok (.ishl, 1) := by decide +kernel
theorem dX7_chance_90 : decode cX7_chance 90 = .ok (.if_icmp .ge 99, 3) := by decide +kernel
theorem dX7_chance_93 : decode cX7_chance 93 = .ok (.iload 8, 2) := by decide +kernel
theorem dX7_chance_95 : decode cX7_chance 95 = .ok (.iload_n 1, 1) := by decide +kernel
theorem dX7_chance_96 : decode cX7_chance 96 = .ok (.invokestatic 153, 3) := by decide +kernel
theorem dX7_chance_99 : decode cX7_chance 99 = .ok (.ifCond .eq 84, 3) := by decide +kernel
theorem dX7_chance_102 : decode cX7_chance 102 = .ok (.lconst 1, 1) := by decide +kernel
theorem dX7_chance_103 : decode cX7_chance 103 = .ok (.lstore 9, 2) := by decide +kernel
theorem dX7_chance_105 : decode cX7_chance 105 = .ok (.iconst 0, 1) := by decide +kernel
theorem dX7_chance_106 : decode cX7_chance 106 = .ok (.istore 11, 2) := by decide +kernel
theorem dX7_chance_108 : decode cX7_chance 108 = .ok (.iload 11, 2) := by decide +kernel
theorem dX7_chance_110 : decode cX7_chance 110 = .ok (.aload_n 0, 1) := by decide +kernel
theorem dX7_chance_111 : decode cX7_chance 111 = .ok (.getfield 75, 3) := by decide +kernel
theorem dX7_chance_114 : decode cX7_chance 114 = .ok (.if_icmp .ge 44, 3) := by decide +kernel
theorem dX7_chance_117 : decode cX7_chance 117 = .ok (.lload 9, 2) := by decide +kernel
theorem dX7_chance_119 : decode cX7_chance 119 = .ok (.iload 11, 2) := by decide +kernel
theorem dX7_chance_121 : decode cX7_chance 121 = .ok (.iload_n 1, 1) := by decide +kernel
theorem dX7_chance_122 : decode cX7_chance 122 = .ok (.if_icmp .ne 7, 3) := by decide +kernel
theorem dX7_chance_125 : decode cX7_chance 125 = .ok (.lconst 1, 1) := by decide +kernel
theorem dX7_chance_126 : decode cX7_chance 126 = .ok (.goto 23, 3) := by decide +kernel
theorem dX7_chance_129 : decode cX7_chance 129 = .ok (.iload 8, 2) := by decide +kernel
theorem dX7_chance_131 : decode cX7_chance 131 = .ok (.iload 11, 2) := by decide +kernel
theorem dX7_chance_133 : decode cX7_chance 133 = .ok (.invokestatic 153, 3) := by decide +kernel
theorem dX7_chance_136 : decode cX7_chance 136 = .ok (.ifCond .eq 8, 3) := by decide +kernel
theorem dX7_chance_139 : decode cX7_chance 139 = .ok (.iload_n 2, 1) := by decide +kernel
theorem dX7_chance_140 : decode cX7_chance 140 = .ok (.i2l, 1) := by decide +kernel
theorem dX7_chance_141 : decode cX7_chance 141 = .ok (.goto 8, 3) := by decide +kernel
theorem dX7_chance_144 : decode cX7_chance 144 = .ok (.bipush 10, 2) := by decide +kernel
theorem dX7_chance_146 : decode cX7_chance 146 = .ok (.iload_n 2, 1) := by decide +kernel
theorem dX7_chance_147 : decode cX7_chance 147 = .ok (.isub, 1) := by decide +kernel
theorem dX7_chance_148 : decode cX7_chance 148 = .ok (.i2l, 1) := by decide +kernel
theorem dX7_chance_149 : decode cX7_chance 149 = .ok (.lmul, 1) := by decide +kernel
theorem dX7_chance_150 : decode cX7_chance 150 = .ok (.lstore 9, 2) := by decide +kernel
theorem dX7_chance_152 : decode cX7_chance 152 = .ok (.iinc 11 1, 3) := by decide +kernel
theorem dX7_chance_155 : decode cX7_chance 155 = .ok (.goto (-47), 3) := by decide +kernel
theorem dX7_chance_158 : decode cX7_chance 158 = .ok (.aload_n 0, 1) := by decide +kernel
theorem dX7_chance_159 : decode cX7_chance 159 = .ok (.iload 8, 2) := by decide +kernel
theorem dX7_chance_161 : decode cX7_chance 161 = .ok (.putfield 147, 3) := by decide +kernel
theorem dX7_chance_164 : decode cX7_chance 164 = .ok (.lload 4, 2) := by decide +kernel
theorem dX7_chance_166 : decode cX7_chance 166 = .ok (.aload_n 0, 1) := by decide +kernel
theorem dX7_chance_167 : decode cX7_chance 167 = .ok (.iload_n 1, 1) := by decide +kernel
theorem dX7_chance_168 : decode cX7_chance 168 = .ok (.invokevirtual 186, 3) := by decide +kernel
theorem dX7_chance_171 : decode cX7_chance 171 = .ok (.ifCond .eq 8, 3) := by decide +kernel
theorem dX7_chance_174 : decode cX7_chance 174 = .ok (.lload 9, 2) := by decide +kernel
theorem dX7_chance_176 : decode cX7_chance 176 = .ok (.goto 4, 3) := by decide +kernel
theorem dX7_chance_179 : decode cX7_chance 179 = .ok (.lconst 0, 1) := by decide +kernel
theorem dX7_chance_180 : decode cX7_chance 180 = .ok (.ladd, 1) := by decide +kernel
theorem dX7_chance_181 : decode cX7_chance 181 = .ok (.lstore 4, 2) := by decide +kernel
theorem dX7_chance_183 : decode cX7_chance 183 = .ok (.iinc 8 1, 3) := by decide +kernel
theorem dX7_chance_186 : decode cX7_chance 186 = .ok (.goto (-104), 3) := by decide +kernel
theorem dX7_chance_189 : decode cX7_chance 189 = .ok (.lload 4, 2) := by decide +kernel
theorem dX7_chance_191 : decode cX7_chance 191 = .ok (.lload 6, 2) := by decide +kernel
theorem dX7_chance_193 : decode cX7_chance 193 = .ok (.invokestatic 262, 3) := by decide +kernel
theorem dX7_chance_196 : decode cX7_chance 196 = .ok (.lstore 8, 2) := by decide +kernel
theorem dX7_chance_198 : decode cX7_chance 198 = .ok (.iload_n 3, 1) := by decide +kernel
theorem dX7_chance_199 : decode cX7_chance 199 = .ok (.ifCond .eq 11, 3) := by decide +kernel
theorem dX7_chance_202 : decode cX7_chance 202 = .ok (.lload 4, 2) := by decide +kernel
theorem dX7_chance_204 : decode cX7_chance 204 = .ok (.lload 8, 2) := by decide +kernel
theorem dX7_chance_206 : decode cX7_chance 206 = .ok (.ldiv, 1) := by decide +kernel
theorem dX7_chance_207 : decode cX7_chance 207 = .ok (.goto 8, 3) := by decide +kernel
theorem dX7_chance_210 : decode cX7_chance 210 = .ok (.lload 6, 2) := by decide +kernel
theorem dX7_chance_212 : decode cX7_chance 212 = .ok (.lload 8, 2) := by decide +kernel
theorem dX7_chance_214 : decode cX7_chance 214 = .ok (.ldiv, 1) := by decide +kernel
theorem dX7_chance_215 : decode cX7_chance 215 = .ok (.lreturn, 1) := by decide +kernel
set_option maxRecDepth 20000 in
theorem ggX7_meter_X7_in : GoodIn wsX7_meter wsX7_in := goodIn_r _ [10] (by decide +kernel) (by decide +kernel)
set_option maxRecDepth 20000 in
theorem gX7_meter_X7_in : GoodIn wsX7_meter (va_wsS RX7 78 yX7_in wsX7_in) := goodIn_app (goodIn_of _ (by decide +kernel)) ggX7_meter_X7_in
theorem dX7_meter_0 : decode cX7_meter 0 = .ok (.aload_n 0, 1) := by decide +kernel
theorem dX7_meter_1 : decode cX7_meter 1 = .ok (.iconst 0, 1) := by decide +kernel
theorem dX7_meter_2 : decode cX7_meter 2 = .ok (.putfield 71, 3) := by decide +kernel
theorem dX7_meter_5 : decode cX7_meter 5 = .ok (.iload_n 1, 1) := by decide +kernel
theorem dX7_meter_6 : decode cX7_meter 6 = .ok (.i2l, 1) := by decide +kernel
theorem dX7_meter_7 : decode cX7_meter 7 = .ok (.lconst 0, 1) := by decide +kernel
theorem dX7_meter_8 : decode cX7_meter 8 = .ok (.ldc2_w 266, 3) := by decide +kernel
theorem dX7_meter_11 : decode cX7_meter 11 = .ok (.invokestatic 78, 3) := by decide +kernel
theorem dX7_meter_14 : decode cX7_meter 14 = .ok (.ifCond .eq 15, 3) := by decide +kernel
theorem dX7_meter_17 : decode cX7_meter 17 = .ok (.iload_n 2, 1) := by decide +kernel
theorem dX7_meter_18 : decode cX7_meter 18 = .ok (.i2l, 1) := by decide +kernel
theorem dX7_meter_19 : decode cX7_meter 19 = .ok (.lconst 0, 1) := by decide +kernel
theorem dX7_meter_20 : decode cX7_meter 20 = .ok (.ldc2_w 268, 3) := by decide +kernel
theorem dX7_meter_23 : decode cX7_meter 23 = .ok (.invokestatic 78, 3) := by decide +kernel
theorem dX7_meter_26 : decode cX7_meter 26 = .ok (.ifCond .ne 6, 3) := by decide +kernel
theorem dX7_meter_29 : decode cX7_meter 29 = .ok (.bipush (-2), 2) := by decide +kernel
theorem dX7_meter_31 : decode cX7_meter 31 = .ok (.ireturn, 1) := by decide +kernel
theorem dX7_meter_32 : decode cX7_meter 32 = .ok (.aload_n 0, 1) := by decide +kernel
theorem dX7_meter_33 : decode cX7_meter 33 = .ok (.getfield 198, 3) := by decide +kernel
theorem dX7_meter_36 : decode cX7_meter 36 = .ok (.bipush 6, 2) := by decide +kernel
theorem dX7_meter_38 : decode cX7_meter 38 = .ok (.if_icmp .ne 6, 3) := by decide +kernel
theorem dX7_meter_41 : decode cX7_meter 41 = .ok (.bipush (-4), 2) := by decide +kernel
theorem dX7_meter_43 : decode cX7_meter 43 = .ok (.ireturn, 1) := by decide +kernel
theorem dX7_meter_44 : decode cX7_meter 44 = .ok (.aload_n 0, 1) := by decide +kernel
theorem dX7_meter_45 : decode cX7_meter 45 = .ok (.getfield 50, 3) := by decide +kernel
theorem dX7_meter_48 : decode cX7_meter 48 = .ok (.aload_n 0, 1) := by decide +kernel
theorem dX7_meter_49 : decode cX7_meter 49 = .ok (.getfield 198, 3) := by decide +kernel
theorem dX7_meter_52 : decode cX7_meter 52 = .ok (.iload_n 1, 1) := by decide +kernel
theorem dX7_meter_53 : decode cX7_meter 53 = .ok (.iastore, 1) := by decide +kernel
theorem dX7_meter_54 : decode cX7_meter 54 = .ok (.aload_n 0, 1) := by decide +kernel
theorem dX7_meter_55 : decode cX7_meter 55 = .ok (.getfield 53, 3) := by decide +kernel
theorem dX7_meter_58 : decode cX7_meter 58 = .ok (.aload_n 0, 1) := by decide +kernel
theorem dX7_meter_59 : decode cX7_meter 59 = .ok (.getfield 198, 3) := by decide +kernel
theorem dX7_meter_62 : decode cX7_meter 62 = .ok (.iload_n 2, 1) := by decide +kernel
theorem dX7_meter_63 : decode cX7_meter 63 = .ok (.iastore, 1) := by decide +kernel
theorem dX7_meter_64 : decode cX7_meter 64 = .ok (.aload_n 0, 1) := by decide +kernel
theorem dX7_meter_65 : decode cX7_meter 65 = .ok (.dup, 1) := by decide +kernel
theorem dX7_meter_66 : decode cX7_meter 66 = .ok (.getfield 198, 3) := by decide +kernel
theorem dX7_meter_69 : decode cX7_meter 69 = .ok (.iconst 1, 1) := by decide +kernel
theorem dX7_meter_70 : decode cX7_meter 70 = .ok (.iadd, 1) := by decide +kernel
theorem dX7_meter_71 : decode cX7_meter 71 = .ok (.putfield 198, 3) := by decide +kernel
theorem dX7_meter_74 : decode cX7_meter 74 = .ok (.aload_n 0, 1) := by decide +kernel
theorem dX7_meter_75 : decode cX7_meter 75 = .ok (.getfield 198, 3) := by decide +kernel
theorem dX7_meter_78 : decode cX7_meter 78 = .ok (.ireturn, 1) := by decide +kernel
theorem dX7_unmeter_0 : decode cX7_unmeter 0 = .ok (.aload_n 0, 1) := by decide +kernel
theorem dX7_unmeter_1 : decode cX7_unmeter 1 = .ok (.iconst 0, 1) := by decide +kernel
theorem dX7_unmeter_2 : decode cX7_unmeter 2 = .ok (.putfield 71, 3) := by decide +kernel
theorem dX7_unmeter_5 : decode cX7_unmeter 5 = .ok (.aload_n 0, 1) := by decide +kernel
theorem dX7_unmeter_6 : decode cX7_unmeter 6 = .ok (.getfield 198, 3) := by decide +kernel
theorem dX7_unmeter_9 : decode cX7_unmeter 9 = .ok (.istore_n 1, 1) := by decide +kernel
theorem dX7_unmeter_10 : decode cX7_unmeter 10 = .ok (.aload_n 0, 1) := by decide +kernel
theorem dX7_unmeter_11 : decode cX7_unmeter 11 = .ok (.iconst 0, 1) := by decide +kernel
theorem dX7_unmeter_12 : decode cX7_unmeter 12 = .ok (.putfield 198, 3) := by decide +kernel
theorem dX7_unmeter_15 : decode cX7_unmeter 15 = .ok (.iload_n 1, 1) := by decide +kernel
theorem dX7_unmeter_16 : decode cX7_unmeter 16 = .ok (.ireturn, 1) := by decide +kernel
set_option maxRecDepth 20000 in
theorem ggX7_came_X7_begin : GoodIn wsX7_came wsX7_begin := goodIn_r _ [11, 2, 12, 13, 14, 15, 3, 16, 17, 18, 19, 20, 83, 84, 85, 86, 87, 88, 89, 90, 91, 92, 93, 94, 95, 96, 97, 98, 99, 100, 101, 102, 103, 104, 105, 106, 107, 108, 109, 110, 111, 112, 113, 114, 115, 116, 117, 118, 119, 120, 121, 122] (by decide +kernel) (by decide +kernel)
set_option maxRecDepth 20000 in
theorem gX7_came_X7_begin : GoodIn wsX7_came (wsV RX7 195 RX7 yX7_begin wsX7_begin) := goodIn_app (goodIn_of _ (by decide +kernel)) ggX7_came_X7_begin
set_option maxRecDepth 20000 in
theorem ggX7_came_X7_allBy : GoodIn wsX7_came wsX7_allBy := goodIn_r _ [24, 2, 12, 83, 84, 85, 86, 87, 88, 89, 90, 91, 92, 93, 94, 95, 96, 97, 98, 99, 100, 101, 102, 103, 104, 105, 106, 107, 108, 109, 110, 111, 112, 113, 114, 115, 116, 117, 118, 119, 120, 121, 122] (by decide +kernel) (by decide +kernel)
set_option maxRecDepth 20000 in
theorem gX7_came_X7_allBy : GoodIn wsX7_came (wsV RX7 231 RX7 yX7_allBy wsX7_allBy) := goodIn_app (goodIn_of _ (by decide +kernel)) ggX7_came_X7_allBy
set_option maxRecDepth 20000 in
theorem ggX7_came_X7_echo : GoodIn wsX7_came wsX7_echo := goodIn_r _ [28, 17, 29, 30, 31, 10, 32, 3, 33, 34, 35, 36, 37, 18, 12, 38, 39, 40, 41, 42, 43, 44, 15, 83, 84, 85, 86, 87, 88, 89, 90, 91, 92, 93, 94, 95, 96, 97, 98, 99, 100, 101, 102, 103, 104, 105, 106, 107, 108, 109, 110, 111, 112, 113, 114, 115, 116, 117, 118, 119, 120, 121, 122] (by decide +kernel) (by decide +kernel)
set_option maxRecDepth 20000 in
theorem gX7_came_X7_echo : GoodIn wsX7_came (wsV RX7 170 RX7 yX7_echo wsX7_echo) := goodIn_app (goodIn_of _ (by decide +kernel)) ggX7_came_X7_echo
set_option maxRecDepth 20000 in
theorem ggX7_came_X7_in : GoodIn wsX7_came wsX7_in := goodIn_r _ [47] (by decide +kernel) (by decide +kernel)
set_option maxRecDepth 20000 in
theorem gX7_came_X7_in : GoodIn wsX7_came (va_wsS RX7 78 yX7_in wsX7_in) := goodIn_app (goodIn_of _ (by decide +kernel)) ggX7_came_X7_in
set_option maxRecDepth 20000 in
theorem ggX7_came_X7_go : GoodIn wsX7_came wsX7_go := goodIn_r _ [51, 3, 52, 12, 15, 53, 54, 55, 10, 56, 20, 25, 26, 27, 28, 17, 29, 30, 31, 32, 33, 34, 35, 36, 37, 18, 38, 39, 40, 41, 42, 43, 44, 57, 58, 59, 60, 61, 62, 63, 64, 65, 66, 67, 68, 69, 70, 71, 72, 73, 74, 75, 76, 77, 78, 79, 80, 81, 82, 83, 84, 85, 86, 87, 88, 89, 90, 91, 92, 93, 94, 95, 96, 97, 98, 99, 100, 101, 102, 103, 104, 105, 106, 107, 108, 109, 110, 111, 112, 113, 114, 115, 116, 117, 118, 119, 120, 121, 122] (by decide +kernel) (by decide +kernel)
set_option maxRecDepth 20000 in
theorem gX7_came_X7_go : GoodIn wsX7_came (wsV RX7 213 RX7 yX7_go wsX7_go) := goodIn_app (goodIn_of _ (by decide +kernel)) ggX7_came_X7_go
theorem dX7_came_0 : decode cX7_came 0 = .ok (.aload_n 0, 1) := by decide +kernel
theorem dX7_came_1 : decode cX7_came 1 = .ok (.iconst 0, 1) := by decide +kernel
theorem dX7_came_2 : decode cX7_came 2 = .ok (.putfield 71, 3) := by decide +kernel
theorem dX7_came_5 : decode cX7_came 5 = .ok (.iconst 0, 1) := by decide +kernel
theorem dX7_came_6 : decode cX7_came 6 = .ok (.istore_n 1, 1) := by decide +kernel
theorem dX7_came_7 : decode cX7_came 7 = .ok (.iconst 0, 1) := by decide +kernel
theorem dX7_came_8 : decode cX7_came 8 = .ok (.istore_n 2, 1) := by decide +kernel
theorem dX7_came_9 : decode cX7_came 9 = .ok (.iload_n 2, 1) := by decide +kernel
theorem dX7_came_10 : decode cX7_came 10 = .ok (.aload_n 0, 1) := by decide +kernel
theorem dX7_came_11 : decode cX7_came 11 = .ok (.getfield 75, 3) := by decide +kernel
theorem dX7_came_14 : decode cX7_came 14 = .ok (.if_icmp .gt 131, 3) := by decide +kernel
theorem dX7_came_17 : decode cX7_came 17 = .ok (.aload_n 0, 1) := by decide +kernel
theorem dX7_came_18 : decode cX7_came 18 = .ok (.invokevirtual 195, 3) := by decide +kernel
theorem dX7_came_21 : decode cX7_came 21 = .ok (.aload_n 0, 1) := by decide +kernel
theorem dX7_came_22 : decode cX7_came 22 = .ok (.iconst 1, 1) := by decide +kernel
theorem dX7_came_23 : decode cX7_came 23 = .ok (.invokevirtual 231, 3) := by decide +kernel
theorem dX7_came_26 : decode cX7_came 26 = .ok (.aload_n 0, 1) := by decide +kernel
theorem dX7_came_27 : decode cX7_came 27 = .ok (.iload_n 2, 1) := by decide +kernel
theorem dX7_came_28 : decode cX7_came 28 = .ok (.putfield 141, 3) := by decide +kernel
theorem dX7_came_31 : decode cX7_came 31 = .ok (.iconst 1, 1) := by decide +kernel
theorem dX7_came_32 : decode cX7_came 32 = .ok (.istore_n 3, 1) := by decide +kernel
theorem dX7_came_33 : decode cX7_came 33 = .ok (.iconst 0, 1) := by decide +kernel
theorem dX7_came_34 : decode cX7_came 34 = .ok (.istore 4, 2) := by decide +kernel
theorem dX7_came_36 : decode cX7_came 36 = .ok (.iload 4, 2) := by decide +kernel
theorem dX7_came_38 : decode cX7_came 38 = .ok (.bipush 40, 2) := by decide +kernel
theorem dX7_came_40 : decode cX7_came 40 = .ok (.if_icmp .gt 85, 3) := by decide +kernel
theorem dX7_came_43 : decode cX7_came 43 = .ok (.iconst 0, 1) := by decide +kernel
theorem dX7_came_44 : decode cX7_came 44 = .ok (.istore 5, 2) := by decide +kernel
theorem dX7_came_46 : decode cX7_came 46 = .ok (.iload 5, 2) := by decide +kernel
theorem dX7_came_48 : decode cX7_came 48 = .ok (.aload_n 0, 1) := by decide +kernel
theorem dX7_came_49 : decode cX7_came 49 = .ok (.getfield 198, 3) := by decide +kernel
theorem dX7_came_52 : decode cX7_came 52 = .ok (.if_icmp .ge 62, 3) := by decide +kernel
theorem dX7_came_55 : decode cX7_came 55 = .ok (.iload_n 3, 1) := by decide +kernel
theorem dX7_came_56 : decode cX7_came 56 = .ok (.ifCond .eq 50, 3) := by decide +kernel
theorem dX7_came_59 : decode cX7_came 59 = .ok (.aload_n 0, 1) := by decide +kernel
theorem dX7_came_60 : decode cX7_came 60 = .ok (.getfield 50, 3) := by decide +kernel
theorem dX7_came_63 : decode cX7_came 63 = .ok (.iload 5, 2) := by decide +kernel
theorem dX7_came_65 : decode cX7_came 65 = .ok (.iaload, 1) := by decide +kernel
theorem dX7_came_66 : decode cX7_came 66 = .ok (.iload 4, 2) := by decide +kernel
theorem dX7_came_68 : decode cX7_came 68 = .ok (.if_icmp .ne 34, 3) := by decide +kernel
theorem dX7_came_71 : decode cX7_came 71 = .ok (.aload_n 0, 1) := by decide +kernel
theorem dX7_came_72 : decode cX7_came 72 = .ok (.invokevirtual 170, 3) := by decide +kernel
theorem dX7_came_75 : decode cX7_came 75 = .ok (.i2l, 1) := by decide +kernel
theorem dX7_came_76 : decode cX7_came 76 = .ok (.aload_n 0, 1) := by decide +kernel
theorem dX7_came_77 : decode cX7_came 77 = .ok (.getfield 53, 3) := by decide +kernel
theorem dX7_came_80 : decode cX7_came 80 = .ok (.iload 5, 2) := by decide +kernel
theorem dX7_came_82 : decode cX7_came 82 = .ok (.iaload, 1) := by decide +kernel
theorem dX7_came_83 : decode cX7_came 83 = .ok (.iconst 3, 1) := by decide +kernel
theorem dX7_came_84 : decode cX7_came 84 = .ok (.isub, 1) := by decide +kernel
theorem dX7_came_85 : decode cX7_came 85 = .ok (.i2l, 1) := by decide +kernel
theorem dX7_came_86 : decode cX7_came 86 = .ok (.aload_n 0, 1) := by decide +kernel
theorem dX7_came_87 : decode cX7_came 87 = .ok (.getfield 53, 3) := by decide +kernel
theorem dX7_came_90 : decode cX7_came 90 = .ok (.iload 5, 2) := by decide +kernel
theorem dX7_came_92 : decode cX7_came 92 = .ok (.iaload, 1) := by decide +kernel
theorem dX7_came_93 : decode cX7_came 93 = .ok (.iconst 3, 1) := by decide +kernel
theorem dX7_came_94 : decode cX7_came 94 = .ok (.iadd, 1) := by decide +kernel
theorem dX7_came_95 : decode cX7_came 95 = .ok (.i2l, 1) := by decide +kernel
theorem dX7_came_96 : decode cX7_came 96 = .ok (.invokestatic 78, 3) := by decide +kernel
theorem dX7_came_99 : decode cX7_came 99 = .ok (.ifCond .eq 7, 3) := by decide +kernel
theorem dX7_came_102 : decode cX7_came 102 = .ok (.iconst 1, 1) := by decide +kernel
theorem dX7_came_103 : decode cX7_came 103 = .ok (.goto 4, 3) := by decide +kernel
theorem dX7_came_106 : decode cX7_came 106 = .ok (.iconst 0, 1) := by decide +kernel
theorem dX7_came_107 : decode cX7_came 107 = .ok (.istore_n 3, 1) := by decide +kernel
theorem dX7_came_108 : decode cX7_came 108 = .ok (.iinc 5 1, 3) := by decide +kernel
theorem dX7_came_111 : decode cX7_came 111 = .ok (.goto (-65), 3) := by decide +kernel
theorem dX7_came_114 : decode cX7_came 114 = .ok (.aload_n 0, 1) := by decide +kernel
theorem dX7_came_115 : decode cX7_came 115 = .ok (.invokevirtual 213, 3) := by decide +kernel
theorem dX7_came_118 : decode cX7_came 118 = .ok (.pop, 1) := by decide +kernel
theorem dX7_came_119 : decode cX7_came 119 = .ok (.iinc 4 1, 3) := by decide +kernel
theorem dX7_came_122 : decode cX7_came 122 = .ok (.goto (-86), 3) := by decide +kernel
theorem dX7_came_125 : decode cX7_came 125 = .ok (.iload_n 1, 1) := by decide +kernel
theorem dX7_came_126 : decode cX7_came 126 = .ok (.iload_n 3, 1) := by decide +kernel
theorem dX7_came_127 : decode cX7_came 127 = .ok (.ifCond .eq 9, 3) := by decide +kernel
theorem dX7_came_130 : decode cX7_came 130 = .ok (.iconst 1, 1) := by decide +kernel
theorem dX7_came_131 : decode cX7_came 131 = .ok (.iload_n 2, 1) := by decide +kernel
theorem dX7_came_132 : decode cX7_came 132 = .ok (.ishl, 1) := by decide +kernel
theorem dX7_came_133 : decode cX7_came 133 = .ok (.goto 4, 3) := by decide +kernel
theorem dX7_came_136 : decode cX7_came 136 = .ok (.iconst 0, 1) := by decide +kernel
theorem dX7_came_137 : decode cX7_came 137 = .ok (.ior, 1) := by decide +kernel
theorem dX7_came_138 : decode cX7_came 138 = .ok (.istore_n 1, 1) := by decide +kernel
theorem dX7_came_139 : decode cX7_came 139 = .ok (.iinc 2 1, 3) := by decide +kernel
theorem dX7_came_142 : decode cX7_came 142 = .ok (.goto (-133), 3) := by decide +kernel
theorem dX7_came_145 : decode cX7_came 145 = .ok (.iload_n 1, 1) := by decide +kernel
theorem dX7_came_146 : decode cX7_came 146 = .ok (.ireturn, 1) := by decide +kernel
set_option maxRecDepth 20000 in
theorem ggX7_keep_X7_in : GoodIn wsX7_keep wsX7_in := goodIn_r _ [10] (by decide +kernel) (by decide +kernel)
set_option maxRecDepth 20000 in
theorem gX7_keep_X7_in : GoodIn wsX7_keep (va_wsS RX7 78 yX7_in wsX7_in) := goodIn_app (goodIn_of _ (by decide +kernel)) ggX7_keep_X7_in
set_option maxRecDepth 20000 in
theorem ggX7_keep_X7_layPage : GoodIn wsX7_keep wsX7_layPage := goodIn_r _ [14, 15, 16, 17, 18, 19, 6, 20, 21, 22, 23, 24, 25, 26, 27, 28, 29, 30, 31, 32, 33, 34, 35, 36, 37, 38, 39, 40, 41, 42, 43, 44, 45, 46, 47, 48, 49, 50, 51, 52, 53, 54, 55, 56, 57, 58, 59, 60] (by decide +kernel) (by decide +kernel)
set_option maxRecDepth 20000 in
theorem gX7_keep_X7_layPage : GoodIn wsX7_keep (wsV RX7 206 RX7 yX7_layPage wsX7_layPage) := goodIn_app (goodIn_of _ (by decide +kernel)) ggX7_keep_X7_layPage
theorem dX7_keep_0 : decode cX7_keep 0 = .ok (.aload_n 0, 1) := by decide +kernel
theorem dX7_keep_1 : decode cX7_keep 1 = .ok (.iconst 0, 1) := by decide +kernel
theorem dX7_keep_2 : decode cX7_keep 2 = .ok (.putfield 71, 3) := by decide +kernel
theorem dX7_keep_5 : decode cX7_keep 5 = .ok (.iload_n 1, 1) := by decide +kernel
theorem dX7_keep_6 : decode cX7_keep 6 = .ok (.i2l, 1) := by decide +kernel
theorem dX7_keep_7 : decode cX7_keep 7 = .ok (.lconst 0, 1) := by decide +kernel
theorem dX7_keep_8 : decode cX7_keep 8 = .ok (.lconst 1, 1) := by decide +kernel
theorem dX7_keep_9 : decode cX7_keep 9 = .ok (.invokestatic 78, 3) := by decide +kernel
theorem dX7_keep_12 : decode cX7_keep 12 = .ok (.ifCond .ne 5, 3) := by decide +kernel
theorem dX7_keep_15 : decode cX7_keep 15 = .ok (.iconst (-1), 1) := by decide +kernel
theorem dX7_keep_16 : decode cX7_keep 16 = .ok (.ireturn, 1) := by decide +kernel
theorem dX7_keep_17 : decode cX7_keep 17 = .ok (.aload_n 0, 1) := by decide +kernel
theorem dX7_keep_18 : decode cX7_keep 18 = .ok (.getfield 46, 3) := by decide +kernel
theorem dX7_keep_21 : decode cX7_keep 21 = .ok (.iload_n 1, 1) := by decide +kernel
theorem dX7_keep_22 : decode cX7_keep 22 = .ok (.iconst 1, 1) := by decide +kernel
theorem dX7_keep_23 : decode cX7_keep 23 = .ok (.bastore, 1) := by decide +kernel
theorem dX7_keep_24 : decode cX7_keep 24 = .ok (.aload_n 0, 1) := by decide +kernel
theorem dX7_keep_25 : decode cX7_keep 25 = .ok (.aload_n 0, 1) := by decide +kernel
theorem dX7_keep_26 : decode cX7_keep 26 = .ok (.getfield 43, 3) := by decide +kernel
theorem dX7_keep_29 : decode cX7_keep 29 = .ok (.bipush 45, 2) := by decide +kernel
theorem dX7_keep_31 : decode cX7_keep 31 = .ok (.iload_n 1, 1) := by decide +kernel
theorem dX7_keep_32 : decode cX7_keep 32 = .ok (.imul, 1) := by decide +kernel
theorem dX7_keep_33 : decode cX7_keep 33 = .ok (.invokevirtual 206, 3) := by decide +kernel
theorem dX7_keep_36 : decode cX7_keep 36 = .ok (.aload_n 0, 1) := by decide +kernel
theorem dX7_keep_37 : decode cX7_keep 37 = .ok (.getfield 43, 3) := by decide +kernel
theorem dX7_keep_40 : decode cX7_keep 40 = .ok (.bipush 45, 2) := by decide +kernel
theorem dX7_keep_42 : decode cX7_keep 42 = .ok (.iload_n 1, 1) := by decide +kernel
theorem dX7_keep_43 : decode cX7_keep 43 = .ok (.imul, 1) := by decide +kernel
theorem dX7_keep_44 : decode cX7_keep 44 = .ok (.bipush 42, 2) := by decide +kernel
theorem dX7_keep_46 : decode cX7_keep 46 = .ok (.iadd, 1) := by decide +kernel
theorem dX7_keep_47 : decode cX7_keep 47 = .ok (.aload_n 0, 1) := by decide +kernel
theorem dX7_keep_48 : decode cX7_keep 48 = .ok (.getfield 125, 3) := by decide +kernel
theorem dX7_keep_51 : decode cX7_keep 51 = .ok (.iastore, 1) := by decide +kernel
theorem dX7_keep_52 : decode cX7_keep 52 = .ok (.aload_n 0, 1) := by decide +kernel
theorem dX7_keep_53 : decode cX7_keep 53 = .ok (.getfield 43, 3) := by decide +kernel
theorem dX7_keep_56 : decode cX7_keep 56 = .ok (.bipush 45, 2) := by decide +kernel
theorem dX7_keep_58 : decode cX7_keep 58 = .ok (.iload_n 1, 1) := by decide +kernel
theorem dX7_keep_59 : decode cX7_keep 59 = .ok (.imul, 1) := by decide +kernel
theorem dX7_keep_60 : decode cX7_keep 60 = .ok (.bipush 43, 2) := by decide +kernel
theorem dX7_keep_62 : decode cX7_keep 62 = .ok (.iadd, 1) := by decide +kernel
theorem dX7_keep_63 : decode cX7_keep 63 = .ok (.aload_n 0, 1) := by decide +kernel
theorem dX7_keep_64 : decode cX7_keep 64 = .ok (.getfield 131, 3) := by decide +kernel
theorem dX7_keep_67 : decode cX7_keep 67 = .ok (.ifCond .eq 7, 3) := by decide +kernel
theorem dX7_keep_70 : decode cX7_keep 70 = .ok (.iconst 1, 1) := by decide +kernel
theorem dX7_keep_71 : decode cX7_keep 71 = .ok (.goto 4, 3) := by decide +kernel
theorem dX7_keep_74 : decode cX7_keep 74 = .ok (.iconst 0, 1) := by decide +kernel
theorem dX7_keep_75 : decode cX7_keep 75 = .ok (.iastore, 1) := by decide +kernel
theorem dX7_keep_76 : decode cX7_keep 76 = .ok (.aload_n 0, 1) := by decide +kernel
theorem dX7_keep_77 : decode cX7_keep 77 = .ok (.getfield 75, 3) := by decide +kernel
theorem dX7_keep_80 : decode cX7_keep 80 = .ok (.ireturn, 1) := by decide +kernel
set_option maxRecDepth 20000 in
theorem ggX7_again_X7_in : GoodIn wsX7_again wsX7_in := goodIn_r _ [11] (by decide +kernel) (by decide +kernel)
set_option maxRecDepth 20000 in
theorem gX7_again_X7_in : GoodIn wsX7_again (va_wsS RX7 78 yX7_in wsX7_in) := goodIn_app (goodIn_of _ (by decide +kernel)) ggX7_again_X7_in
set_option maxRecDepth 20000 in
theorem ggX7_again_X7_takePage : GoodIn wsX7_again wsX7_takePage := goodIn_r _ [15, 16, 17, 18, 19, 20, 7, 21, 22, 23, 24, 25, 26, 27, 28, 29, 30, 31, 32, 33, 34, 35, 36, 37, 38, 39, 40, 41, 42, 43, 44, 45, 46, 47, 48, 49, 50, 51, 52, 53, 54, 55, 56, 57, 58, 59, 60, 61] (by decide +kernel) (by decide +kernel)
set_option maxRecDepth 20000 in
theorem gX7_again_X7_takePage : GoodIn wsX7_again (wsV RX7 226 RX7 yX7_takePage wsX7_takePage) := goodIn_app (goodIn_of _ (by decide +kernel)) ggX7_again_X7_takePage
theorem dX7_again_0 : decode cX7_again 0 = .ok (.aload_n 0, 1) := by decide +kernel
theorem dX7_again_1 : decode cX7_again 1 = .ok (.iconst 0, 1) := by decide +kernel
theorem dX7_again_2 : decode cX7_again 2 = .ok (.putfield 71, 3) := by decide +kernel
theorem dX7_again_5 : decode cX7_again 5 = .ok (.iload_n 1, 1) := by decide +kernel
theorem dX7_again_6 : decode cX7_again 6 = .ok (.i2l, 1) := by decide +kernel
theorem dX7_again_7 : decode cX7_again 7 = .ok (.lconst 0, 1) := by decide +kernel
theorem dX7_again_8 : decode cX7_again 8 = .ok (.lconst 1, 1) := by decide +kernel
theorem dX7_again_9 : decode cX7_again 9 = .ok (.invokestatic 78, 3) := by decide +kernel
theorem dX7_again_12 : decode cX7_again 12 = .ok (.ifCond .ne 5, 3) := by decide +kernel
theorem dX7_again_15 : decode cX7_again 15 = .ok (.iconst (-1), 1) := by decide +kernel
theorem dX7_again_16 : decode cX7_again 16 = .ok (.ireturn, 1) := by decide +kernel
theorem dX7_again_17 : decode cX7_again 17 = .ok (.aload_n 0, 1) := by decide +kernel
theorem dX7_again_18 : decode cX7_again 18 = .ok (.getfield 46, 3) := by decide +kernel
theorem dX7_again_21 : decode cX7_again 21 = .ok (.iload_n 1, 1) := by decide +kernel
theorem dX7_again_22 : decode cX7_again 22 = .ok (.baload, 1) := by decide +kernel
theorem dX7_again_23 : decode cX7_again 23 = .ok (.ifCond .ne 6, 3) := by decide +kernel
theorem dX7_again_26 : decode cX7_again 26 = .ok (.bipush (-3), 2) := by decide +kernel
theorem dX7_again_28 : decode cX7_again 28 = .ok (.ireturn, 1) := by decide +kernel
theorem dX7_again_29 : decode cX7_again 29 = .ok (.aload_n 0, 1) := by decide +kernel
theorem dX7_again_30 : decode cX7_again 30 = .ok (.aload_n 0, 1) := by decide +kernel
theorem dX7_again_31 : decode cX7_again 31 = .ok (.getfield 43, 3) := by decide +kernel
theorem dX7_again_34 : decode cX7_again 34 = .ok (.bipush 45, 2) := by decide +kernel
theorem dX7_again_36 : decode cX7_again 36 = .ok (.iload_n 1, 1) := by decide +kernel
theorem dX7_again_37 : decode cX7_again 37 = .ok (.imul, 1) := by decide +kernel
theorem dX7_again_38 : decode cX7_again 38 = .ok (.invokevirtual 226, 3) := by decide +kernel
theorem dX7_again_41 : decode cX7_again 41 = .ok (.aload_n 0, 1) := by decide +kernel
theorem dX7_again_42 : decode cX7_again 42 = .ok (.aload_n 0, 1) := by decide +kernel
theorem dX7_again_43 : decode cX7_again 43 = .ok (.getfield 43, 3) := by decide +kernel
theorem dX7_again_46 : decode cX7_again 46 = .ok (.bipush 45, 2) := by decide +kernel
theorem dX7_again_48 : decode cX7_again 48 = .ok (.iload_n 1, 1) := by decide +kernel
theorem dX7_again_49 : decode cX7_again 49 = .ok (.imul, 1) := by decide +kernel
theorem dX7_again_50 : decode cX7_again 50 = .ok (.bipush 42, 2) := by decide +kernel
theorem dX7_again_52 : decode cX7_again 52 = .ok (.iadd, 1) := by decide +kernel
theorem dX7_again_53 : decode cX7_again 53 = .ok (.iaload, 1) := by decide +kernel
theorem dX7_again_54 : decode cX7_again 54 = .ok (.putfield 125, 3) := by decide +kernel
theorem dX7_again_57 : decode cX7_again 57 = .ok (.aload_n 0, 1) := by decide +kernel
theorem dX7_again_58 : decode cX7_again 58 = .ok (.aload_n 0, 1) := by decide +kernel
theorem dX7_again_59 : decode cX7_again 59 = .ok (.getfield 43, 3) := by decide +kernel
theorem dX7_again_62 : decode cX7_again 62 = .ok (.bipush 45, 2) := by decide +kernel
theorem dX7_again_64 : decode cX7_again 64 = .ok (.iload_n 1, 1) := by decide +kernel
theorem dX7_again_65 : decode cX7_again 65 = .ok (.imul, 1) := by decide +kernel
theorem dX7_again_66 : decode cX7_again 66 = .ok (.bipush 43, 2) := by decide +kernel
theorem dX7_again_68 : decode cX7_again 68 = .ok (.iadd, 1) := by decide +kernel
theorem dX7_again_69 : decode cX7_again 69 = .ok (.iaload, 1) := by decide +kernel
theorem dX7_again_70 : decode cX7_again 70 = .ok (.iconst 1, 1) := by decide +kernel
theorem dX7_again_71 : decode cX7_again 71 = .ok (.if_icmp .ne 7, 3) := by decide +kernel
theorem dX7_again_74 : decode cX7_again 74 = .ok (.iconst 1, 1) := by decide +kernel
theorem dX7_again_75 : decode cX7_again 75 = .ok (.goto 4, 3) := by decide +kernel
theorem dX7_again_78 : decode cX7_again 78 = .ok (.iconst 0, 1) := by decide +kernel
theorem dX7_again_79 : decode cX7_again 79 = .ok (.putfield 131, 3) := by decide +kernel
theorem dX7_again_82 : decode cX7_again 82 = .ok (.aload_n 0, 1) := by decide +kernel
theorem dX7_again_83 : decode cX7_again 83 = .ok (.iconst 0, 1) := by decide +kernel
theorem dX7_again_84 : decode cX7_again 84 = .ok (.putfield 135, 3) := by decide +kernel
theorem dX7_again_87 : decode cX7_again 87 = .ok (.aload_n 0, 1) := by decide +kernel
theorem dX7_again_88 : decode cX7_again 88 = .ok (.getfield 75, 3) := by decide +kernel
theorem dX7_again_91 : decode cX7_again 91 = .ok (.ireturn, 1) := by decide +kernel
theorem dJ6_bitCount_0f7a4_0 : decode cJ6_bitCount_0f7a4 0 = .ok (.iload_n 0, 1) := by decide +kernel
theorem dJ6_bitCount_0f7a4_1 : decode cJ6_bitCount_0f7a4 1 = .ok (.iload_n 0, 1) := by decide +kernel
theorem dJ6_bitCount_0f7a4_2 : decode cJ6_bitCount_0f7a4 2 = .ok (.iconst 1, 1) := by decide +kernel
theorem dJ6_bitCount_0f7a4_3 : decode cJ6_bitCount_0f7a4 3 = .ok (.iushr, 1) := by decide +kernel
theorem dJ6_bitCount_0f7a4_4 : decode cJ6_bitCount_0f7a4 4 = .ok (.ldc_w 265, 3) := by decide +kernel
theorem dJ6_bitCount_0f7a4_7 : decode cJ6_bitCount_0f7a4 7 = .ok (.iand, 1) := by decide +kernel
theorem dJ6_bitCount_0f7a4_8 : decode cJ6_bitCount_0f7a4 8 = .ok (.isub, 1) := by decide +kernel
theorem dJ6_bitCount_0f7a4_9 : decode cJ6_bitCount_0f7a4 9 = .ok (.istore_n 0, 1) := by decide +kernel
theorem dJ6_bitCount_0f7a4_10 : decode cJ6_bitCount_0f7a4 10 = .ok (.iload_n 0, 1) := by decide +kernel
theorem dJ6_bitCount_0f7a4_11 : decode cJ6_bitCount_0f7a4 11 = .ok (.ldc_w 266, 3) := by decide +kernel
theorem dJ6_bitCount_0f7a4_14 : decode cJ6_bitCount_0f7a4 14 = .ok (.iand, 1) := by decide +kernel
theorem dJ6_bitCount_0f7a4_15 : decode cJ6_bitCount_0f7a4 15 = .ok (.iload_n 0, 1) := by decide +kernel
theorem dJ6_bitCount_0f7a4_16 : decode cJ6_bitCount_0f7a4 16 = .ok (.iconst 2, 1) := by decide +kernel
theorem dJ6_bitCount_0f7a4_17 : decode cJ6_bitCount_0f7a4 17 = .ok (.iushr, 1) := by decide +kernel
theorem dJ6_bitCount_0f7a4_18 : decode cJ6_bitCount_0f7a4 18 = .ok (.ldc_w 266, 3) := by decide +kernel
theorem dJ6_bitCount_0f7a4_21 : decode cJ6_bitCount_0f7a4 21 = .ok (.iand, 1) := by decide +kernel
theorem dJ6_bitCount_0f7a4_22 : decode cJ6_bitCount_0f7a4 22 = .ok (.iadd, 1) := by decide +kernel
theorem dJ6_bitCount_0f7a4_23 : decode cJ6_bitCount_0f7a4 23 = .ok (.istore_n 0, 1) := by decide +kernel
theorem dJ6_bitCount_0f7a4_24 : decode cJ6_bitCount_0f7a4 24 = .ok (.iload_n 0, 1) := by decide +kernel
theorem dJ6_bitCount_0f7a4_25 : decode cJ6_bitCount_0f7a4 25 = .ok (.iload_n 0, 1) := by decide +kernel
theorem dJ6_bitCount_0f7a4_26 : decode cJ6_bitCount_0f7a4 26 = .ok (.iconst 4, 1) := by decide +kernel
theorem dJ6_bitCount_0f7a4_27 : decode cJ6_bitCount_0f7a4 27 = .ok (.iushr, 1) := by decide +kernel
theorem dJ6_bitCount_0f7a4_28 : decode cJ6_bitCount_0f7a4 28 = .ok (.iadd, 1) := by decide +kernel
theorem dJ6_bitCount_0f7a4_29 : decode cJ6_bitCount_0f7a4 29 = .ok (.ldc_w 267, 3) := by decide +kernel
theorem dJ6_bitCount_0f7a4_32 : decode cJ6_bitCount_0f7a4 32 = .ok (.iand, 1) := by decide +kernel
theorem dJ6_bitCount_0f7a4_33 : decode cJ6_bitCount_0f7a4 33 = .ok (.istore_n 0, 1) := by decide +kernel
theorem dJ6_bitCount_0f7a4_34 : decode cJ6_bitCount_0f7a4 34 = .ok (.iload_n 0, 1) := by decide +kernel
theorem dJ6_bitCount_0f7a4_35 : decode cJ6_bitCount_0f7a4 35 = .ok (.iload_n 0, 1) := by decide +kernel
theorem dJ6_bitCount_0f7a4_36 : decode cJ6_bitCount_0f7a4 36 = .ok (.bipush 8, 2) := by decide +kernel
theorem dJ6_bitCount_0f7a4_38 : decode cJ6_bitCount_0f7a4 38 = .ok (.iushr, 1) := by decide +kernel
theorem dJ6_bitCount_0f7a4_39 : decode cJ6_bitCount_0f7a4 39 = .ok (.iadd, 1) := by decide +kernel
theorem dJ6_bitCount_0f7a4_40 : decode cJ6_bitCount_0f7a4 40 = .ok (.istore_n 0, 1) := by decide +kernel
theorem dJ6_bitCount_0f7a4_41 : decode cJ6_bitCount_0f7a4 41 = .ok (.iload_n 0, 1) := by decide +kernel
theorem dJ6_bitCount_0f7a4_42 : decode cJ6_bitCount_0f7a4 42 = .ok (.iload_n 0, 1) := by decide +kernel
theorem dJ6_bitCount_0f7a4_43 : decode cJ6_bitCount_0f7a4 43 = .ok (.bipush 16, 2) := by decide +kernel
theorem dJ6_bitCount_0f7a4_45 : decode cJ6_bitCount_0f7a4 45 = .ok (.iushr, 1) := by decide +kernel
theorem dJ6_bitCount_0f7a4_46 : decode cJ6_bitCount_0f7a4 46 = .ok (.iadd, 1) := by decide +kernel
theorem dJ6_bitCount_0f7a4_47 : decode cJ6_bitCount_0f7a4 47 = .ok (.istore_n 0, 1) := by decide +kernel
theorem dJ6_bitCount_0f7a4_48 : decode cJ6_bitCount_0f7a4 48 = .ok (.iload_n 0, 1) := by decide +kernel
theorem dJ6_bitCount_0f7a4_49 : decode cJ6_bitCount_0f7a4 49 = .ok (.bipush 63, 2) := by decide +kernel
theorem dJ6_bitCount_0f7a4_51 : decode cJ6_bitCount_0f7a4 51 = .ok (.iand, 1) := by decide +kernel
theorem dJ6_bitCount_0f7a4_52 : decode cJ6_bitCount_0f7a4 52 = .ok (.ireturn, 1) := by decide +kernel
theorem dJ9_abs_0f7a4_0 : decode cJ9_abs_0f7a4 0 = .ok (.iload_n 0, 1) := by decide +kernel
theorem dJ9_abs_0f7a4_1 : decode cJ9_abs_0f7a4 1 = .ok (.ifCond .ge 8, 3) := by decide +kernel
theorem dJ9_abs_0f7a4_4 : decode cJ9_abs_0f7a4 4 = .ok (.iload_n 0, 1) := by decide +kernel
theorem dJ9_abs_0f7a4_5 : decode cJ9_abs_0f7a4 5 = .ok (.ineg, 1) := by decide +kernel
theorem dJ9_abs_0f7a4_6 : decode cJ9_abs_0f7a4 6 = .ok (.goto 4, 3) := by decide +kernel
theorem dJ9_abs_0f7a4_9 : decode cJ9_abs_0f7a4 9 = .ok (.iload_n 0, 1) := by decide +kernel
theorem dJ9_abs_0f7a4_10 : decode cJ9_abs_0f7a4 10 = .ok (.ireturn, 1) := by decide +kernel
theorem dJ9_max_7cf53_0 : decode cJ9_max_7cf53 0 = .ok (.iload_n 0, 1) := by decide +kernel
theorem dJ9_max_7cf53_1 : decode cJ9_max_7cf53 1 = .ok (.iload_n 1, 1) := by decide +kernel
theorem dJ9_max_7cf53_2 : decode cJ9_max_7cf53 2 = .ok (.if_icmp .lt 7, 3) := by decide +kernel
theorem dJ9_max_7cf53_5 : decode cJ9_max_7cf53 5 = .ok (.iload_n 0, 1) := by decide +kernel
theorem dJ9_max_7cf53_6 : decode cJ9_max_7cf53 6 = .ok (.goto 4, 3) := by decide +kernel
theorem dJ9_max_7cf53_9 : decode cJ9_max_7cf53 9 = .ok (.iload_n 1, 1) := by decide +kernel
theorem dJ9_max_7cf53_10 : decode cJ9_max_7cf53 10 = .ok (.ireturn, 1) := by decide +kernel
theorem dJ9_max_f86c9_0 : decode cJ9_max_f86c9 0 = .ok (.lload_n 0, 1) := by decide +kernel
theorem dJ9_max_f86c9_1 : decode cJ9_max_f86c9 1 = .ok (.lload_n 2, 1) := by decide +kernel
theorem dJ9_max_f86c9_2 : decode cJ9_max_f86c9 2 = .ok (.lcmp, 1) := by decide +kernel
theorem dJ9_max_f86c9_3 : decode cJ9_max_f86c9 3 = .ok (.ifCond .lt 7, 3) := by decide +kernel
theorem dJ9_max_f86c9_6 : decode cJ9_max_f86c9 6 = .ok (.lload_n 0, 1) := by decide +kernel
theorem dJ9_max_f86c9_7 : decode cJ9_max_f86c9 7 = .ok (.goto 4, 3) := by decide +kernel
theorem dJ9_max_f86c9_10 : decode cJ9_max_f86c9 10 = .ok (.lload_n 2, 1) := by decide +kernel
theorem dJ9_max_f86c9_11 : decode cJ9_max_f86c9 11 = .ok (.lreturn, 1) := by decide +kernel
theorem dJ9_min_7cf53_0 : decode cJ9_min_7cf53 0 = .ok (.iload_n 0, 1) := by decide +kernel
theorem dJ9_min_7cf53_1 : decode cJ9_min_7cf53 1 = .ok (.iload_n 1, 1) := by decide +kernel
theorem dJ9_min_7cf53_2 : decode cJ9_min_7cf53 2 = .ok (.if_icmp .gt 7, 3) := by decide +kernel
theorem dJ9_min_7cf53_5 : decode cJ9_min_7cf53 5 = .ok (.iload_n 0, 1) := by decide +kernel
theorem dJ9_min_7cf53_6 : decode cJ9_min_7cf53 6 = .ok (.goto 4, 3) := by decide +kernel
theorem dJ9_min_7cf53_9 : decode cJ9_min_7cf53 9 = .ok (.iload_n 1, 1) := by decide +kernel
theorem dJ9_min_7cf53_10 : decode cJ9_min_7cf53 10 = .ok (.ireturn, 1) := by decide +kernel
set_option maxRecDepth 20000 in
theorem ggL_law_X6_init : GoodIn wsL_law wsX6_init := goodIn_r _ [9, 10, 11, 12, 13, 14, 15, 16, 17, 18, 19, 20, 21, 22, 23, 24, 25, 26, 27, 28, 29, 30, 31, 32, 33, 34, 35, 36, 37, 38, 39, 40, 41, 42, 43, 44, 45, 46, 47, 48, 49, 50, 51, 52, 53, 54, 55, 56, 57, 58, 59, 60, 61, 62, 63, 64, 65, 66, 67, 68, 69, 70, 71, 72, 73, 74, 75, 76, 911, 912, 913, 914, 863, 864, 865, 866, 867, 868, 869, 870, 915, 916, 917, 918, 919, 920, 921, 922, 923, 924, 925, 926, 927, 928, 929, 930, 931, 932, 933, 934, 935, 936] (by decide +kernel) (by decide +kernel)
set_option maxRecDepth 20000 in
theorem gL_law_X6_init : GoodIn wsL_law (wsX6_init) := ggL_law_X6_init
set_option maxRecDepth 20000 in
theorem ggL_law_X7_init : GoodIn wsL_law wsX7_init := goodIn_r _ [79, 80, 11, 12, 48, 81, 82, 83, 84, 85, 86, 87, 88, 89, 90, 91, 92, 93, 94, 95, 96, 97, 98, 99, 100, 101, 871, 872, 873, 874, 875, 876, 877, 878, 879, 880, 881, 882, 883, 884, 885, 886, 887, 888, 889, 890, 891, 892, 893, 894, 895, 896, 897, 898, 899, 900, 901, 902, 903, 904, 905, 906, 907, 908, 909, 910] (by decide +kernel) (by decide +kernel)
set_option maxRecDepth 20000 in
theorem gL_law_X7_init : GoodIn wsL_law (wsX7_init) := ggL_law_X7_init
set_option maxRecDepth 20000 in
theorem ggL_law_X6_write : GoodIn wsL_law wsX6_write := goodIn_r _ [105, 16, 106, 107, 108, 15, 109, 110, 43, 863, 864, 865, 866, 867, 868, 869, 870, 911, 912, 913, 914] (by decide +kernel) (by decide +kernel)
set_option maxRecDepth 20000 in
theorem gL_law_X6_write : GoodIn wsL_law (wsV RL 15 RX6 yX6_write wsX6_write) := goodIn_app (goodIn_of _ (by decide +kernel)) ggL_law_X6_write
set_option maxRecDepth 20000 in
theorem ggL_law_X7_write : GoodIn wsL_law wsX7_write := goodIn_r _ [114, 115, 116, 117, 81, 118, 119, 5, 120, 871, 872, 873, 874, 875, 876, 877, 878, 879, 880, 881, 882, 883, 884, 885, 886, 887, 888, 889, 890, 891, 892, 893, 894, 895, 896, 897, 898, 899, 900, 901, 902, 903, 904, 905, 906, 907, 908, 909, 910] (by decide +kernel) (by decide +kernel)
set_option maxRecDepth 20000 in
theorem gL_law_X7_write : GoodIn wsL_law (wsV RL 19 RX7 yX7_write wsX7_write) := goodIn_app (goodIn_of _ (by decide +kernel)) ggL_law_X7_write
set_option maxRecDepth 20000 in
theorem ggL_law_X6_wipe : GoodIn wsL_law wsX6_wipe := goodIn_r _ [124, 16, 125, 126, 127, 15, 128, 110, 863, 864, 865, 866, 867, 868, 869, 870, 911, 912, 913, 914] (by decide +kernel) (by decide +kernel)
set_option maxRecDepth 20000 in
theorem gL_law_X6_wipe : GoodIn wsL_law (wsV RL 20 RX6 yX6_wipe wsX6_wipe) := goodIn_app (goodIn_of _ (by decide +kernel)) ggL_law_X6_wipe
set_option maxRecDepth 20000 in
theorem ggL_law_X7_wipe : GoodIn wsL_law wsX7_wipe := goodIn_r _ [132, 115, 117, 871, 872, 873, 874, 875, 876, 877, 878, 879, 880, 881, 882, 883, 884, 885, 886, 887, 888, 889, 890, 891, 892, 893, 894, 895, 896, 897, 898, 899, 900, 901, 902, 903, 904, 905, 906, 907, 908, 909, 910] (by decide +kernel) (by decide +kernel)
set_option maxRecDepth 20000 in
theorem gL_law_X7_wipe : GoodIn wsL_law (wsV RL 24 RX7 yX7_wipe wsX7_wipe) := goodIn_app (goodIn_of _ (by decide +kernel)) ggL_law_X7_wipe
set_option maxRecDepth 20000 in
theorem ggL_law_X6_fault : GoodIn wsL_law wsX6_fault := goodIn_r _ [136, 16, 21, 26, 137, 138, 139, 15, 140, 141, 44, 110, 142, 143, 144, 19, 145, 146, 147, 148, 149, 150, 151, 152, 153, 24, 154, 155, 156, 157, 158, 159, 160, 161, 162, 163, 43, 164, 165, 166, 167, 168, 169, 170, 171, 172, 173, 174, 175, 176, 177, 178, 179, 50, 180, 181, 182, 183, 49, 51, 52, 53, 184, 185, 186, 187, 188, 189, 190, 191, 58, 59, 863, 864, 865, 866, 867, 868, 869, 870, 911, 912, 913, 914, 915, 916, 917, 918, 919, 920, 921, 922, 923, 924, 925, 926, 927, 928, 929] (by decide +kernel) (by decide +kernel)
set_option maxRecDepth 20000 in
theorem gL_law_X6_fault : GoodIn wsL_law (wsV RL 25 RX6 yX6_fault wsX6_fault) := goodIn_app (goodIn_of _ (by decide +kernel)) ggL_law_X6_fault
set_option maxRecDepth 20000 in
theorem ggL_law_X7_fault : GoodIn wsL_law wsX7_fault := goodIn_r _ [195, 115, 196, 197, 198, 5, 199, 200, 201, 202, 117, 81, 203, 204, 205, 206, 207, 208, 118, 119, 120, 209, 210, 211, 212, 213, 214, 215, 216, 89, 217, 218, 219, 220, 221, 222, 223, 224, 90, 871, 872, 873, 874, 875, 876, 877, 878, 879, 880, 881, 882, 883, 884, 885, 886, 887, 888, 889, 890, 891, 892, 893, 894, 895, 896, 897, 898, 899, 900, 901, 902, 903, 904, 905, 906, 907, 908, 909, 910] (by decide +kernel) (by decide +kernel)
set_option maxRecDepth 20000 in
theorem gL_law_X7_fault : GoodIn wsL_law (wsV RL 28 RX7 yX7_fault wsX7_fault) := goodIn_app (goodIn_of _ (by decide +kernel)) ggL_law_X7_fault
set_option maxRecDepth 20000 in
theorem ggL_law_X6_room : GoodIn wsL_law wsX6_room := goodIn_r _ [228, 16, 21, 26, 20, 25, 30, 38, 137, 138, 139, 15, 140, 141, 44, 110, 142, 143, 144, 19, 145, 146, 147, 148, 149, 150, 151, 152, 153, 24, 154, 155, 156, 157, 158, 159, 160, 161, 162, 163, 43, 164, 165, 166, 167, 168, 169, 170, 171, 172, 173, 174, 175, 176, 177, 178, 179, 50, 180, 181, 182, 183, 49, 51, 52, 53, 184, 185, 186, 187, 188, 189, 190, 191, 58, 59, 229, 230, 231, 232, 233, 234, 235, 236, 237, 238, 239, 240, 241, 242, 243, 29, 244, 245, 246, 247, 248, 37, 249, 250, 863, 864, 865, 866, 867, 868, 869, 870, 915, 916, 917, 918, 919, 920, 921, 922, 923, 924, 925, 926, 911, 912, 913, 914, 927, 928, 929, 930, 931, 935, 936] (by decide +kernel) (by decide +kernel)
set_option maxRecDepth 20000 in
theorem gL_law_X6_room : GoodIn wsL_law (wsV RL 29 RX6 yX6_room wsX6_room) := goodIn_app (goodIn_of _ (by decide +kernel)) ggL_law_X6_room
set_option maxRecDepth 20000 in
theorem ggL_law_X7_room : GoodIn wsL_law wsX7_room := goodIn_r _ [254, 115, 201, 255, 202, 256, 203, 257, 204, 258, 259, 82, 89, 83, 84, 85, 86, 87, 90, 88, 260, 94, 196, 197, 198, 5, 199, 200, 117, 81, 205, 206, 207, 208, 118, 119, 120, 209, 210, 211, 212, 213, 214, 215, 216, 217, 218, 219, 220, 221, 222, 223, 224, 871, 872, 873, 874, 875, 876, 877, 878, 879, 880, 881, 882, 883, 884, 885, 886, 887, 888, 889, 890, 891, 892, 893, 894, 895, 896, 897, 898, 899, 900, 901, 902, 903, 904, 905, 906, 907, 908, 909, 910] (by decide +kernel) (by decide +kernel)
set_option maxRecDepth 20000 in
theorem gL_law_X7_room : GoodIn wsL_law (wsV RL 32 RX7 yX7_room wsX7_room) := goodIn_app (goodIn_of _ (by decide +kernel)) ggL_law_X7_room
set_option maxRecDepth 20000 in
theorem ggL_law_X6_about : GoodIn wsL_law wsX6_about := goodIn_r _ [264, 20, 25, 30, 34, 16, 265, 266, 267, 19, 268, 146, 51, 269, 270, 271, 272, 147, 273, 274, 275, 276, 277, 278, 279, 280, 281, 282, 283, 284, 150, 52, 285, 286, 287, 288, 148, 289, 290, 291, 292, 293, 294, 295, 296, 297, 50, 298, 299, 300, 301, 49, 302, 303, 304, 305, 306, 307, 308, 309, 310, 311, 312, 313, 314, 315, 316, 317, 318, 319, 2, 320, 321, 322, 323, 324, 53, 863, 864, 865, 866, 867, 868, 869, 870, 915, 916, 917, 918, 919, 920, 921, 922, 923, 924, 925, 926, 927, 928, 929, 930, 931, 932, 933, 934, 911, 912, 913, 914] (by decide +kernel) (by decide +kernel)
set_option maxRecDepth 20000 in
theorem gL_law_X6_about : GoodIn wsL_law (wsV RL 33 RX6 yX6_about wsX6_about) := goodIn_app (goodIn_of _ (by decide +kernel)) ggL_law_X6_about
set_option maxRecDepth 20000 in
theorem ggL_law_X7_about : GoodIn wsL_law wsX7_about := goodIn_r _ [328, 115, 255, 84, 257, 258, 256, 260, 329, 117, 330, 331, 332, 5, 333, 97, 85, 334, 335, 336, 337, 259, 338, 339, 340, 341, 342, 83, 343, 344, 345, 346, 347, 348, 349, 350, 351, 352, 353, 82, 354, 355, 356, 357, 358, 359, 360, 361, 362, 363, 364, 365, 366, 367, 368, 369, 370, 371, 372, 373, 374, 375, 376, 377, 378, 379, 380, 86, 871, 872, 873, 874, 875, 876, 877, 878, 879, 880, 881, 882, 883, 884, 885, 886, 887, 888, 889, 890, 891, 892, 893, 894, 895, 896, 897, 898, 899, 900, 901, 902, 903, 904, 905, 906, 907, 908, 909, 910] (by decide +kernel) (by decide +kernel)
set_option maxRecDepth 20000 in
theorem gL_law_X7_about : GoodIn wsL_law (wsV RL 37 RX7 yX7_about wsX7_about) := goodIn_app (goodIn_of _ (by decide +kernel)) ggL_law_X7_about
set_option maxRecDepth 20000 in
theorem ggL_law_X6_ring : GoodIn wsL_law wsX6_ring := goodIn_r _ [384, 20, 385, 386, 387, 19, 388, 146, 389, 282, 283, 284, 51, 150, 52, 390, 303, 304, 305, 49, 273, 274, 275, 276, 391, 307, 308, 309, 310, 270, 271, 272, 147, 277, 278, 279, 280, 281, 285, 286, 287, 288, 148, 311, 312, 313, 314, 315, 316, 317, 318, 50, 319, 2, 320, 392, 295, 296, 297, 298, 299, 300, 301, 302, 306, 321, 322, 323, 324, 53, 863, 864, 865, 866, 867, 868, 869, 870, 915, 916, 917, 918, 919, 920, 921, 922, 923, 924, 925, 926] (by decide +kernel) (by decide +kernel)
set_option maxRecDepth 20000 in
theorem gL_law_X6_ring : GoodIn wsL_law (wsV RL 38 RX6 yX6_ring wsX6_ring) := goodIn_app (goodIn_of _ (by decide +kernel)) ggL_law_X6_ring
set_option maxRecDepth 20000 in
theorem ggL_law_X7_ring : GoodIn wsL_law wsX7_ring := goodIn_r _ [396, 115, 82, 83, 84, 85, 86, 397, 398, 399, 5, 400, 255, 118, 119, 120, 330, 331, 332, 333, 97, 258, 334, 335, 257, 336, 337, 259, 338, 343, 344, 345, 346, 347, 348, 349, 350, 351, 352, 353, 354, 355, 356, 357, 358, 359, 360, 361, 362, 363, 364, 365, 366, 367, 368, 369, 370, 371, 372, 373, 374, 375, 376, 339, 340, 341, 342, 377, 378, 379, 380, 871, 872, 873, 874, 875, 876, 877, 878, 879, 880, 881, 882, 883, 884, 885, 886, 887, 888, 889, 890, 891, 892, 893, 894, 895, 896, 897, 898, 899, 900, 901, 902, 903, 904, 905, 906, 907, 908, 909, 910] (by decide +kernel) (by decide +kernel)
set_option maxRecDepth 20000 in
theorem gL_law_X7_ring : GoodIn wsL_law (wsV RL 42 RX7 yX7_ring wsX7_ring) := goodIn_app (goodIn_of _ (by decide +kernel)) ggL_law_X7_ring
set_option maxRecDepth 20000 in
theorem ggL_law_X6_stuff : GoodIn wsL_law wsX6_stuff := goodIn_r _ [404, 25, 863, 864, 865, 866, 867, 868, 869, 870, 927, 928, 929] (by decide +kernel) (by decide +kernel)
set_option maxRecDepth 20000 in
theorem gL_law_X6_stuff : GoodIn wsL_law (wsV RL 43 RX6 yX6_stuff wsX6_stuff) := goodIn_app (goodIn_of _ (by decide +kernel)) ggL_law_X6_stuff
set_option maxRecDepth 20000 in
theorem ggL_law_X7_stuff : GoodIn wsL_law wsX7_stuff := goodIn_r _ [408, 115, 256, 87, 88, 118, 119, 5, 120, 871, 872, 873, 874, 875, 876, 877, 878, 879, 880, 881, 882, 883, 884, 885, 886, 887, 888, 889, 890, 891, 892, 893, 894, 895, 896, 897, 898, 899, 900, 901, 902, 903, 904, 905, 906, 907, 908, 909, 910] (by decide +kernel) (by decide +kernel)
set_option maxRecDepth 20000 in
theorem gL_law_X7_stuff : GoodIn wsL_law (wsV RL 46 RX7 yX7_stuff wsX7_stuff) := goodIn_app (goodIn_of _ (by decide +kernel)) ggL_law_X7_stuff
set_option maxRecDepth 20000 in
theorem ggL_law_X6_noise : GoodIn wsL_law wsX6_noise := goodIn_r _ [412, 20, 413, 414, 2, 415, 391, 307, 308, 19, 309, 310, 270, 271, 272, 147, 273, 274, 275, 276, 277, 278, 279, 280, 146, 281, 282, 283, 284, 51, 150, 52, 285, 286, 287, 288, 148, 311, 312, 313, 314, 315, 316, 317, 318, 50, 319, 320, 863, 864, 865, 866, 867, 868, 869, 870, 915, 916, 917, 918, 919, 920, 921, 922, 923, 924, 925, 926] (by decide +kernel) (by decide +kernel)
set_option maxRecDepth 20000 in
theorem gL_law_X6_noise : GoodIn wsL_law (wsV RL 47 RX6 yX6_noise wsX6_noise) := goodIn_app (goodIn_of _ (by decide +kernel)) ggL_law_X6_noise
set_option maxRecDepth 20000 in
theorem ggL_law_X7_noise : GoodIn wsL_law wsX7_noise := goodIn_r _ [419, 115, 420, 118, 119, 5, 120, 330, 331, 332, 333, 255, 97, 85, 258, 334, 335, 257, 336, 337, 259, 338, 354, 355, 356, 357, 358, 359, 360, 361, 362, 363, 364, 365, 343, 344, 345, 346, 84, 347, 348, 349, 366, 367, 368, 369, 370, 371, 372, 373, 83, 374, 375, 376, 871, 872, 873, 874, 875, 876, 877, 878, 879, 880, 881, 882, 883, 884, 885, 886, 887, 888, 889, 890, 891, 892, 893, 894, 895, 896, 897, 898, 899, 900, 901, 902, 903, 904, 905, 906, 907, 908, 909, 910] (by decide +kernel) (by decide +kernel)
set_option maxRecDepth 20000 in
theorem gL_law_X7_noise : GoodIn wsL_law (wsV RL 50 RX7 yX7_noise wsX7_noise) := goodIn_app (goodIn_of _ (by decide +kernel)) ggL_law_X7_noise
set_option maxRecDepth 20000 in
theorem ggL_law_X6_from : GoodIn wsL_law wsX6_from := goodIn_r _ [424, 20, 385, 386, 387, 19, 388, 146, 413, 414, 2, 415, 425, 316, 317, 318, 50, 319, 320, 281, 282, 283, 284, 51, 150, 52, 863, 864, 865, 866, 867, 868, 869, 870, 915, 916, 917, 918, 919, 920, 921, 922, 923, 924, 925, 926] (by decide +kernel) (by decide +kernel)
set_option maxRecDepth 20000 in
theorem gL_law_X6_from : GoodIn wsL_law (wsV RL 51 RX6 yX6_from wsX6_from) := goodIn_app (goodIn_of _ (by decide +kernel)) ggL_law_X6_from
set_option maxRecDepth 20000 in
theorem ggL_law_X7_from : GoodIn wsL_law wsX7_from := goodIn_r _ [429, 115, 420, 397, 398, 399, 5, 400, 255, 118, 119, 120, 330, 331, 332, 333, 97, 85, 258, 334, 335, 257, 336, 337, 259, 338, 370, 371, 372, 373, 83, 343, 344, 345, 346, 84, 347, 348, 349, 374, 375, 376, 871, 872, 873, 874, 875, 876, 877, 878, 879, 880, 881, 882, 883, 884, 885, 886, 887, 888, 889, 890, 891, 892, 893, 894, 895, 896, 897, 898, 899, 900, 901, 902, 903, 904, 905, 906, 907, 908, 909, 910] (by decide +kernel) (by decide +kernel)
set_option maxRecDepth 20000 in
theorem gL_law_X7_from : GoodIn wsL_law (wsV RL 55 RX7 yX7_from wsX7_from) := goodIn_app (goodIn_of _ (by decide +kernel)) ggL_law_X7_from
set_option maxRecDepth 20000 in
theorem ggL_law_X6_voice : GoodIn wsL_law wsX6_voice := goodIn_r _ [433, 20, 385, 386, 387, 19, 388, 146, 863, 864, 865, 866, 867, 868, 869, 870, 915, 916, 917, 918, 919, 920, 921, 922, 923, 924, 925, 926] (by decide +kernel) (by decide +kernel)
set_option maxRecDepth 20000 in
theorem gL_law_X6_voice : GoodIn wsL_law (wsV RL 56 RX6 yX6_voice wsX6_voice) := goodIn_app (goodIn_of _ (by decide +kernel)) ggL_law_X6_voice
set_option maxRecDepth 20000 in
theorem ggL_law_X7_voice : GoodIn wsL_law wsX7_voice := goodIn_r _ [437, 115, 420, 85, 397, 398, 399, 5, 400, 255, 118, 119, 120, 871, 872, 873, 874, 875, 876, 877, 878, 879, 880, 881, 882, 883, 884, 885, 886, 887, 888, 889, 890, 891, 892, 893, 894, 895, 896, 897, 898, 899, 900, 901, 902, 903, 904, 905, 906, 907, 908, 909, 910] (by decide +kernel) (by decide +kernel)
set_option maxRecDepth 20000 in
theorem gL_law_X7_voice : GoodIn wsL_law (wsV RL 59 RX7 yX7_voice wsX7_voice) := goodIn_app (goodIn_of _ (by decide +kernel)) ggL_law_X7_voice
set_option maxRecDepth 20000 in
theorem ggL_law_X6_music : GoodIn wsL_law wsX6_music := goodIn_r _ [441, 20, 863, 864, 865, 866, 867, 868, 869, 870, 915, 916, 917, 918, 919, 920, 921, 922, 923, 924, 925, 926] (by decide +kernel) (by decide +kernel)
set_option maxRecDepth 20000 in
theorem gL_law_X6_music : GoodIn wsL_law (wsV RL 60 RX6 yX6_music wsX6_music) := goodIn_app (goodIn_of _ (by decide +kernel)) ggL_law_X6_music
set_option maxRecDepth 20000 in
theorem ggL_law_X7_music : GoodIn wsL_law wsX7_music := goodIn_r _ [445, 115, 420, 258, 259, 118, 119, 5, 120, 871, 872, 873, 874, 875, 876, 877, 878, 879, 880, 881, 882, 883, 884, 885, 886, 887, 888, 889, 890, 891, 892, 893, 894, 895, 896, 897, 898, 899, 900, 901, 902, 903, 904, 905, 906, 907, 908, 909, 910] (by decide +kernel) (by decide +kernel)
set_option maxRecDepth 20000 in
theorem gL_law_X7_music : GoodIn wsL_law (wsV RL 64 RX7 yX7_music wsX7_music) := goodIn_app (goodIn_of _ (by decide +kernel)) ggL_law_X7_music
set_option maxRecDepth 20000 in
theorem ggL_law_X6_eats : GoodIn wsL_law wsX6_eats := goodIn_r _ [449, 20, 863, 864, 865, 866, 867, 868, 869, 870, 915, 916, 917, 918, 919, 920, 921, 922, 923, 924, 925, 926] (by decide +kernel) (by decide +kernel)
set_option maxRecDepth 20000 in
theorem gL_law_X6_eats : GoodIn wsL_law (wsV RL 65 RX6 yX6_eats wsX6_eats) := goodIn_app (goodIn_of _ (by decide +kernel)) ggL_law_X6_eats
set_option maxRecDepth 20000 in
theorem ggL_law_X7_eats : GoodIn wsL_law wsX7_eats := goodIn_r _ [453, 115, 420, 257, 118, 119, 5, 120, 871, 872, 873, 874, 875, 876, 877, 878, 879, 880, 881, 882, 883, 884, 885, 886, 887, 888, 889, 890, 891, 892, 893, 894, 895, 896, 897, 898, 899, 900, 901, 902, 903, 904, 905, 906, 907, 908, 909, 910] (by decide +kernel) (by decide +kernel)
set_option maxRecDepth 20000 in
theorem gL_law_X7_eats : GoodIn wsL_law (wsV RL 68 RX7 yX7_eats wsX7_eats) := goodIn_app (goodIn_of _ (by decide +kernel)) ggL_law_X7_eats
set_option maxRecDepth 20000 in
theorem ggL_law_X6_minute : GoodIn wsL_law wsX6_minute := goodIn_r _ [457, 30, 20, 458, 459, 460, 29, 461, 245, 65, 462, 463, 464, 465, 466, 234, 235, 19, 236, 146, 49, 50, 51, 52, 53, 148, 150, 467, 468, 469, 470, 54, 471, 310, 270, 271, 272, 147, 273, 274, 275, 276, 277, 278, 279, 280, 281, 282, 283, 284, 285, 286, 287, 288, 311, 312, 313, 314, 315, 316, 317, 318, 319, 2, 320, 472, 473, 474, 475, 476, 477, 478, 298, 299, 300, 301, 302, 303, 304, 305, 321, 322, 323, 324, 479, 480, 481, 482, 149, 483, 484, 485, 486, 487, 488, 489, 490, 863, 864, 865, 866, 867, 868, 869, 870, 930, 931, 915, 916, 917, 918, 919, 920, 921, 922, 923, 924, 925, 926] (by decide +kernel) (by decide +kernel)
set_option maxRecDepth 20000 in
theorem gL_law_X6_minute : GoodIn wsL_law (wsV RL 69 RX6 yX6_minute wsX6_minute) := goodIn_app (goodIn_of _ (by decide +kernel)) ggL_law_X6_minute
set_option maxRecDepth 20000 in
theorem ggL_law_X7_minute : GoodIn wsL_law wsX7_minute := goodIn_r _ [494, 115, 255, 85, 97, 334, 258, 495, 496, 497, 5, 498, 260, 91, 499, 500, 501, 502, 82, 83, 84, 86, 330, 331, 332, 333, 335, 257, 336, 337, 259, 338, 503, 504, 505, 506, 98, 507, 508, 509, 510, 358, 359, 360, 361, 362, 363, 364, 365, 343, 344, 345, 346, 347, 348, 349, 366, 367, 368, 369, 511, 512, 513, 514, 354, 355, 356, 357, 370, 371, 372, 373, 374, 375, 376, 350, 351, 352, 353, 377, 378, 379, 380, 871, 872, 873, 874, 875, 876, 877, 878, 879, 880, 881, 882, 883, 884, 885, 886, 887, 888, 889, 890, 891, 892, 893, 894, 895, 896, 897, 898, 899, 900, 901, 902, 903, 904, 905, 906, 907, 908, 909, 910] (by decide +kernel) (by decide +kernel)
set_option maxRecDepth 20000 in
theorem gL_law_X7_minute : GoodIn wsL_law (wsV RL 72 RX7 yX7_minute wsX7_minute) := goodIn_app (goodIn_of _ (by decide +kernel)) ggL_law_X7_minute
set_option maxRecDepth 20000 in
theorem ggL_law_X6_breaks : GoodIn wsL_law wsX6_breaks := goodIn_r _ [518, 20, 30, 385, 386, 387, 19, 388, 146, 458, 459, 460, 29, 461, 245, 65, 462, 463, 464, 465, 466, 234, 235, 236, 49, 50, 51, 52, 53, 148, 150, 519, 520, 521, 522, 523, 177, 178, 179, 524, 181, 182, 183, 863, 864, 865, 866, 867, 868, 869, 870, 915, 916, 917, 918, 919, 920, 921, 922, 923, 924, 925, 926, 930, 931] (by decide +kernel) (by decide +kernel)
set_option maxRecDepth 20000 in
theorem gL_law_X6_breaks : GoodIn wsL_law (wsV RL 73 RX6 yX6_breaks wsX6_breaks) := goodIn_app (goodIn_of _ (by decide +kernel)) ggL_law_X6_breaks
set_option maxRecDepth 20000 in
theorem ggL_law_X7_breaks : GoodIn wsL_law wsX7_breaks := goodIn_r _ [528, 115, 84, 255, 82, 85, 86, 83, 397, 398, 399, 5, 400, 118, 119, 120, 495, 496, 497, 498, 260, 91, 499, 500, 501, 502, 258, 529, 530, 531, 532, 533, 534, 535, 536, 871, 872, 873, 874, 875, 876, 877, 878, 879, 880, 881, 882, 883, 884, 885, 886, 887, 888, 889, 890, 891, 892, 893, 894, 895, 896, 897, 898, 899, 900, 901, 902, 903, 904, 905, 906, 907, 908, 909, 910] (by decide +kernel) (by decide +kernel)
set_option maxRecDepth 20000 in
theorem gL_law_X7_breaks : GoodIn wsL_law (wsV RL 76 RX7 yX7_breaks wsX7_breaks) := goodIn_app (goodIn_of _ (by decide +kernel)) ggL_law_X7_breaks
set_option maxRecDepth 20000 in
theorem ggL_law_X6_joins : GoodIn wsL_law wsX6_joins := goodIn_r _ [540, 20, 30, 385, 386, 387, 19, 388, 146, 458, 459, 460, 29, 461, 245, 65, 462, 463, 464, 465, 466, 234, 235, 236, 49, 50, 51, 52, 53, 148, 150, 541, 542, 543, 544, 545, 863, 864, 865, 866, 867, 868, 869, 870, 915, 916, 917, 918, 919, 920, 921, 922, 923, 924, 925, 926, 930, 931] (by decide +kernel) (by decide +kernel)
set_option maxRecDepth 20000 in
theorem gL_law_X6_joins : GoodIn wsL_law (wsV RL 77 RX6 yX6_joins wsX6_joins) := goodIn_app (goodIn_of _ (by decide +kernel)) ggL_law_X6_joins
set_option maxRecDepth 20000 in
theorem ggL_law_X7_joins : GoodIn wsL_law wsX7_joins := goodIn_r _ [549, 115, 84, 397, 398, 399, 5, 400, 255, 118, 119, 120, 495, 496, 497, 498, 260, 91, 499, 500, 501, 502, 82, 83, 85, 86, 258, 550, 551, 552, 553, 871, 872, 873, 874, 875, 876, 877, 878, 879, 880, 881, 882, 883, 884, 885, 886, 887, 888, 889, 890, 891, 892, 893, 894, 895, 896, 897, 898, 899, 900, 901, 902, 903, 904, 905, 906, 907, 908, 909, 910] (by decide +kernel) (by decide +kernel)
set_option maxRecDepth 20000 in
theorem gL_law_X7_joins : GoodIn wsL_law (wsV RL 80 RX7 yX7_joins wsX7_joins) := goodIn_app (goodIn_of _ (by decide +kernel)) ggL_law_X7_joins
set_option maxRecDepth 20000 in
theorem ggL_law_X6_home : GoodIn wsL_law wsX6_home := goodIn_r _ [557, 20, 30, 385, 386, 387, 19, 388, 146, 458, 459, 460, 29, 461, 245, 65, 462, 463, 464, 465, 466, 234, 235, 236, 49, 50, 51, 52, 53, 148, 150, 541, 542, 543, 544, 545, 863, 864, 865, 866, 867, 868, 869, 870, 915, 916, 917, 918, 919, 920, 921, 922, 923, 924, 925, 926, 930, 931] (by decide +kernel) (by decide +kernel)
set_option maxRecDepth 20000 in
theorem gL_law_X6_home : GoodIn wsL_law (wsV RL 81 RX6 yX6_home wsX6_home) := goodIn_app (goodIn_of _ (by decide +kernel)) ggL_law_X6_home
set_option maxRecDepth 20000 in
theorem ggL_law_X7_home : GoodIn wsL_law wsX7_home := goodIn_r _ [561, 115, 255, 397, 398, 399, 5, 400, 118, 119, 120, 495, 496, 497, 498, 260, 91, 499, 500, 501, 502, 82, 83, 84, 85, 86, 258, 550, 551, 552, 553, 871, 872, 873, 874, 875, 876, 877, 878, 879, 880, 881, 882, 883, 884, 885, 886, 887, 888, 889, 890, 891, 892, 893, 894, 895, 896, 897, 898, 899, 900, 901, 902, 903, 904, 905, 906, 907, 908, 909, 910] (by decide +kernel) (by decide +kernel)
set_option maxRecDepth 20000 in
theorem gL_law_X7_home : GoodIn wsL_law (wsV RL 84 RX7 yX7_home wsX7_home) := goodIn_app (goodIn_of _ (by decide +kernel)) ggL_law_X7_home
set_option maxRecDepth 20000 in
theorem ggL_law_X6_hush : GoodIn wsL_law wsX6_hush := goodIn_r _ [565, 30, 20, 458, 459, 460, 29, 461, 245, 65, 462, 463, 464, 465, 466, 234, 235, 19, 236, 146, 49, 50, 51, 52, 53, 148, 150, 566, 567, 568, 569, 863, 864, 865, 866, 867, 868, 869, 870, 930, 931, 915, 916, 917, 918, 919, 920, 921, 922, 923, 924, 925, 926] (by decide +kernel) (by decide +kernel)
set_option maxRecDepth 20000 in
theorem gL_law_X6_hush : GoodIn wsL_law (wsV RL 85 RX6 yX6_hush wsX6_hush) := goodIn_app (goodIn_of _ (by decide +kernel)) ggL_law_X6_hush
set_option maxRecDepth 20000 in
theorem ggL_law_X7_hush : GoodIn wsL_law wsX7_hush := goodIn_r _ [573, 115, 255, 85, 495, 496, 497, 5, 498, 260, 91, 499, 500, 501, 502, 82, 83, 84, 86, 258, 871, 872, 873, 874, 875, 876, 877, 878, 879, 880, 881, 882, 883, 884, 885, 886, 887, 888, 889, 890, 891, 892, 893, 894, 895, 896, 897, 898, 899, 900, 901, 902, 903, 904, 905, 906, 907, 908, 909, 910] (by decide +kernel) (by decide +kernel)
set_option maxRecDepth 20000 in
theorem gL_law_X7_hush : GoodIn wsL_law (wsV RL 88 RX7 yX7_hush wsX7_hush) := goodIn_app (goodIn_of _ (by decide +kernel)) ggL_law_X7_hush
set_option maxRecDepth 20000 in
theorem ggL_law_X6_undo : GoodIn wsL_law wsX6_undo := goodIn_r _ [577, 30, 20, 578, 579, 580, 29, 581, 245, 65, 466, 234, 235, 19, 236, 146, 49, 50, 51, 52, 53, 148, 150, 863, 864, 865, 866, 867, 868, 869, 870, 930, 931, 915, 916, 917, 918, 919, 920, 921, 922, 923, 924, 925, 926] (by decide +kernel) (by decide +kernel)
set_option maxRecDepth 20000 in
theorem gL_law_X6_undo : GoodIn wsL_law (wsV RL 89 RX6 yX6_undo wsX6_undo) := goodIn_app (goodIn_of _ (by decide +kernel)) ggL_law_X6_undo
set_option maxRecDepth 20000 in
theorem ggL_law_X7_undo : GoodIn wsL_law wsX7_undo := goodIn_r _ [585, 115, 260, 91, 586, 587, 588, 5, 589, 82, 83, 84, 85, 86, 255, 258, 871, 872, 873, 874, 875, 876, 877, 878, 879, 880, 881, 882, 883, 884, 885, 886, 887, 888, 889, 890, 891, 892, 893, 894, 895, 896, 897, 898, 899, 900, 901, 902, 903, 904, 905, 906, 907, 908, 909, 910] (by decide +kernel) (by decide +kernel)
set_option maxRecDepth 20000 in
theorem gL_law_X7_undo : GoodIn wsL_law (wsV RL 92 RX7 yX7_undo wsX7_undo) := goodIn_app (goodIn_of _ (by decide +kernel)) ggL_law_X7_undo
set_option maxRecDepth 20000 in
theorem ggL_law_X6_rest : GoodIn wsL_law wsX6_rest := goodIn_r _ [593, 21, 20, 229, 230, 231, 19, 232, 147, 149, 233, 234, 235, 236, 146, 49, 50, 51, 52, 53, 148, 150, 566, 567, 568, 569, 594, 595, 596, 597, 471, 598, 468, 469, 470, 54, 310, 270, 271, 272, 273, 274, 275, 276, 277, 278, 279, 280, 281, 282, 283, 284, 285, 286, 287, 288, 311, 312, 313, 314, 315, 316, 317, 318, 319, 2, 320, 472, 473, 474, 475, 476, 477, 478, 298, 299, 300, 301, 302, 303, 304, 305, 321, 322, 323, 324, 479, 480, 481, 482, 599, 484, 485, 486, 600, 488, 489, 490, 289, 863, 864, 865, 866, 867, 868, 869, 870, 915, 916, 917, 918, 919, 920, 921, 922, 923, 924, 925, 926] (by decide +kernel) (by decide +kernel)
set_option maxRecDepth 20000 in
theorem gL_law_X6_rest : GoodIn wsL_law (wsV RL 93 RX6 yX6_rest wsX6_rest) := goodIn_app (goodIn_of _ (by decide +kernel)) ggL_law_X6_rest
set_option maxRecDepth 20000 in
theorem ggL_law_X7_rest : GoodIn wsL_law wsX7_rest := goodIn_r _ [604, 115, 605, 118, 119, 5, 120, 330, 331, 332, 333, 255, 97, 85, 258, 334, 335, 257, 336, 337, 259, 338, 606, 607, 608, 609, 610, 611, 612, 613, 503, 504, 505, 506, 98, 507, 508, 509, 510, 358, 359, 360, 361, 362, 363, 364, 365, 343, 344, 345, 346, 84, 347, 348, 349, 366, 367, 368, 369, 511, 512, 513, 514, 82, 83, 354, 355, 356, 357, 370, 371, 372, 373, 374, 375, 376, 350, 351, 352, 353, 377, 378, 379, 380, 86, 871, 872, 873, 874, 875, 876, 877, 878, 879, 880, 881, 882, 883, 884, 885, 886, 887, 888, 889, 890, 891, 892, 893, 894, 895, 896, 897, 898, 899, 900, 901, 902, 903, 904, 905, 906, 907, 908, 909, 910] (by decide +kernel) (by decide +kernel)
set_option maxRecDepth 20000 in
theorem gL_law_X7_rest : GoodIn wsL_law (wsV RL 96 RX7 yX7_rest wsX7_rest) := goodIn_app (goodIn_of _ (by decide +kernel)) ggL_law_X7_rest
set_option maxRecDepth 20000 in
theorem ggL_law_X6_tooMany : GoodIn wsL_law wsX6_tooMany := goodIn_r _ [617, 20, 21, 618, 619, 620, 2, 621, 622, 477, 275, 478, 229, 230, 231, 19, 232, 147, 149, 233, 234, 235, 236, 146, 49, 50, 51, 52, 53, 148, 150, 566, 567, 568, 569, 623, 624, 625, 626, 627, 595, 596, 597, 471, 598, 468, 469, 470, 54, 310, 270, 271, 272, 273, 274, 276, 277, 278, 279, 280, 281, 282, 283, 284, 285, 286, 287, 288, 311, 312, 313, 314, 315, 316, 317, 318, 319, 320, 472, 473, 474, 475, 476, 298, 299, 300, 301, 302, 303, 304, 305, 321, 322, 323, 324, 479, 480, 481, 482, 599, 484, 485, 486, 600, 488, 489, 490, 628, 629, 630, 631, 632, 291, 292, 293, 294, 295, 296, 297, 306, 307, 308, 309, 863, 864, 865, 866, 867, 868, 869, 870, 915, 916, 917, 918, 919, 920, 921, 922, 923, 924, 925, 926] (by decide +kernel) (by decide +kernel)
set_option maxRecDepth 20000 in
theorem gL_law_X6_tooMany : GoodIn wsL_law (wsV RL 97 RX6 yX6_tooMany wsX6_tooMany) := goodIn_app (goodIn_of _ (by decide +kernel)) ggL_law_X6_tooMany
set_option maxRecDepth 20000 in
theorem ggL_law_X7_tooMany : GoodIn wsL_law wsX7_tooMany := goodIn_r _ [636, 115, 255, 335, 330, 331, 332, 5, 333, 97, 85, 258, 334, 257, 336, 337, 259, 338, 606, 607, 608, 609, 610, 611, 612, 613, 503, 504, 505, 506, 98, 507, 508, 509, 510, 358, 359, 360, 361, 362, 363, 364, 365, 343, 344, 345, 346, 84, 347, 348, 349, 366, 367, 368, 369, 511, 512, 513, 514, 82, 83, 354, 355, 356, 357, 370, 371, 372, 373, 374, 375, 376, 350, 351, 352, 353, 377, 378, 379, 380, 86, 637, 638, 639, 640, 339, 340, 341, 342, 871, 872, 873, 874, 875, 876, 877, 878, 879, 880, 881, 882, 883, 884, 885, 886, 887, 888, 889, 890, 891, 892, 893, 894, 895, 896, 897, 898, 899, 900, 901, 902, 903, 904, 905, 906, 907, 908, 909, 910] (by decide +kernel) (by decide +kernel)
set_option maxRecDepth 20000 in
theorem gL_law_X7_tooMany : GoodIn wsL_law (wsV RL 100 RX7 yX7_tooMany wsX7_tooMany) := goodIn_app (goodIn_of _ (by decide +kernel)) ggL_law_X7_tooMany
set_option maxRecDepth 20000 in
theorem ggL_law_X6_lasts : GoodIn wsL_law wsX6_lasts := goodIn_r _ [644, 20, 21, 289, 278, 279, 19, 280, 146, 281, 282, 283, 284, 51, 150, 52, 229, 230, 231, 232, 147, 149, 233, 234, 235, 236, 49, 50, 53, 148, 566, 567, 568, 569, 467, 468, 469, 470, 54, 471, 310, 270, 271, 272, 273, 274, 275, 276, 277, 285, 286, 287, 288, 311, 312, 313, 314, 315, 316, 317, 318, 319, 2, 320, 472, 473, 474, 475, 476, 477, 478, 298, 299, 300, 301, 302, 303, 304, 305, 321, 322, 323, 324, 479, 480, 481, 482, 487, 488, 489, 490, 863, 864, 865, 866, 867, 868, 869, 870, 915, 916, 917, 918, 919, 920, 921, 922, 923, 924, 925, 926] (by decide +kernel) (by decide +kernel)
set_option maxRecDepth 20000 in
theorem gL_law_X6_lasts : GoodIn wsL_law (wsV RL 101 RX6 yX6_lasts wsX6_lasts) := goodIn_app (goodIn_of _ (by decide +kernel)) ggL_law_X6_lasts
set_option maxRecDepth 20000 in
theorem ggL_law_X7_lasts : GoodIn wsL_law wsX7_lasts := goodIn_r _ [648, 115, 330, 331, 332, 5, 333, 255, 97, 85, 258, 334, 335, 257, 336, 337, 259, 338, 362, 363, 364, 365, 343, 344, 345, 346, 84, 347, 348, 349, 606, 607, 608, 609, 503, 504, 505, 506, 98, 507, 508, 509, 510, 358, 359, 360, 361, 366, 367, 368, 369, 511, 512, 513, 514, 82, 83, 354, 355, 356, 357, 370, 371, 372, 373, 374, 375, 376, 350, 351, 352, 353, 377, 378, 379, 380, 86, 871, 872, 873, 874, 875, 876, 877, 878, 879, 880, 881, 882, 883, 884, 885, 886, 887, 888, 889, 890, 891, 892, 893, 894, 895, 896, 897, 898, 899, 900, 901, 902, 903, 904, 905, 906, 907, 908, 909, 910] (by decide +kernel) (by decide +kernel)
set_option maxRecDepth 20000 in
theorem gL_law_X7_lasts : GoodIn wsL_law (wsV RL 104 RX7 yX7_lasts wsX7_lasts) := goodIn_app (goodIn_of _ (by decide +kernel)) ggL_law_X7_lasts
set_option maxRecDepth 20000 in
theorem ggL_law_X6_stuffs : GoodIn wsL_law wsX6_stuffs := goodIn_r _ [652, 25, 21, 20, 622, 477, 275, 478, 653, 654, 655, 24, 656, 58, 657, 658, 659, 660, 155, 229, 230, 231, 19, 232, 147, 149, 233, 234, 235, 236, 146, 49, 50, 51, 52, 53, 148, 150, 661, 662, 663, 664, 59, 623, 624, 625, 626, 627, 595, 596, 597, 471, 598, 468, 469, 470, 54, 310, 270, 271, 272, 273, 274, 276, 277, 278, 279, 280, 281, 282, 283, 284, 285, 286, 287, 288, 311, 312, 313, 314, 315, 316, 317, 318, 319, 2, 320, 472, 473, 474, 475, 476, 298, 299, 300, 301, 302, 303, 304, 305, 321, 322, 323, 324, 479, 480, 481, 482, 599, 484, 485, 486, 600, 488, 489, 490, 628, 629, 630, 631, 632, 291, 292, 293, 294, 295, 296, 297, 306, 307, 308, 309, 863, 864, 865, 866, 867, 868, 869, 870, 927, 928, 929, 915, 916, 917, 918, 919, 920, 921, 922, 923, 924, 925, 926] (by decide +kernel) (by decide +kernel)
set_option maxRecDepth 20000 in
theorem gL_law_X6_stuffs : GoodIn wsL_law (wsV RL 105 RX6 yX6_stuffs wsX6_stuffs) := goodIn_app (goodIn_of _ (by decide +kernel)) ggL_law_X6_stuffs
set_option maxRecDepth 20000 in
theorem ggL_law_X7_stuffs : GoodIn wsL_law wsX7_stuffs := goodIn_r _ [668, 115, 669, 670, 671, 672, 5, 673, 256, 87, 336, 88, 330, 331, 332, 333, 255, 97, 85, 258, 334, 335, 257, 337, 259, 338, 347, 348, 349, 610, 611, 612, 613, 503, 504, 505, 506, 98, 507, 508, 509, 510, 358, 359, 360, 361, 362, 363, 364, 365, 343, 344, 345, 346, 84, 366, 367, 368, 369, 511, 512, 513, 514, 82, 83, 354, 355, 356, 357, 370, 371, 372, 373, 374, 375, 376, 350, 351, 352, 353, 377, 378, 379, 380, 86, 637, 638, 639, 640, 339, 340, 341, 342, 871, 872, 873, 874, 875, 876, 877, 878, 879, 880, 881, 882, 883, 884, 885, 886, 887, 888, 889, 890, 891, 892, 893, 894, 895, 896, 897, 898, 899, 900, 901, 902, 903, 904, 905, 906, 907, 908, 909, 910] (by decide +kernel) (by decide +kernel)
set_option maxRecDepth 20000 in
theorem gL_law_X7_stuffs : GoodIn wsL_law (wsV RL 109 RX7 yX7_stuffs wsX7_stuffs) := goodIn_app (goodIn_of _ (by decide +kernel)) ggL_law_X7_stuffs
set_option maxRecDepth 20000 in
theorem ggL_law_X6_loudest : GoodIn wsL_law wsX6_loudest := goodIn_r _ [677, 21, 20, 229, 230, 231, 19, 232, 147, 149, 233, 234, 235, 236, 146, 49, 50, 51, 52, 53, 148, 150, 623, 624, 625, 626, 627, 595, 596, 597, 471, 598, 468, 469, 470, 54, 310, 270, 271, 272, 273, 274, 275, 276, 277, 278, 279, 280, 281, 282, 283, 284, 285, 286, 287, 288, 311, 312, 313, 314, 315, 316, 317, 318, 319, 2, 320, 472, 473, 474, 475, 476, 477, 478, 298, 299, 300, 301, 302, 303, 304, 305, 321, 322, 323, 324, 479, 480, 481, 482, 599, 484, 485, 486, 600, 488, 489, 490, 628, 629, 630, 631, 632, 291, 292, 293, 294, 295, 296, 297, 306, 307, 308, 309, 863, 864, 865, 866, 867, 868, 869, 870, 915, 916, 917, 918, 919, 920, 921, 922, 923, 924, 925, 926] (by decide +kernel) (by decide +kernel)
set_option maxRecDepth 20000 in
theorem gL_law_X6_loudest : GoodIn wsL_law (wsV RL 110 RX6 yX6_loudest wsX6_loudest) := goodIn_app (goodIn_of _ (by decide +kernel)) ggL_law_X6_loudest
set_option maxRecDepth 20000 in
theorem ggL_law_X7_loudest : GoodIn wsL_law wsX7_loudest := goodIn_r _ [681, 115, 334, 338, 330, 331, 332, 5, 333, 255, 97, 85, 258, 335, 257, 336, 337, 259, 610, 611, 612, 613, 503, 504, 505, 506, 98, 507, 508, 509, 510, 358, 359, 360, 361, 362, 363, 364, 365, 343, 344, 345, 346, 84, 347, 348, 349, 366, 367, 368, 369, 511, 512, 513, 514, 82, 83, 354, 355, 356, 357, 370, 371, 372, 373, 374, 375, 376, 350, 351, 352, 353, 377, 378, 379, 380, 86, 637, 638, 639, 640, 339, 340, 341, 342, 871, 872, 873, 874, 875, 876, 877, 878, 879, 880, 881, 882, 883, 884, 885, 886, 887, 888, 889, 890, 891, 892, 893, 894, 895, 896, 897, 898, 899, 900, 901, 902, 903, 904, 905, 906, 907, 908, 909, 910] (by decide +kernel) (by decide +kernel)
set_option maxRecDepth 20000 in
theorem gL_law_X7_loudest : GoodIn wsL_law (wsV RL 113 RX7 yX7_loudest wsX7_loudest) := goodIn_app (goodIn_of _ (by decide +kernel)) ggL_law_X7_loudest
set_option maxRecDepth 20000 in
theorem ggL_law_X6_softer : GoodIn wsL_law wsX6_softer := goodIn_r _ [685, 21, 20, 229, 230, 231, 19, 232, 147, 149, 233, 234, 235, 236, 146, 49, 50, 51, 52, 53, 148, 150, 566, 567, 568, 569, 686, 629, 630, 631, 632, 291, 292, 293, 294, 295, 296, 297, 298, 299, 300, 301, 281, 282, 283, 284, 302, 303, 304, 305, 273, 274, 275, 276, 306, 307, 308, 309, 310, 270, 271, 272, 277, 278, 279, 280, 285, 286, 287, 288, 311, 312, 313, 314, 315, 316, 317, 318, 319, 2, 320, 321, 322, 323, 324, 863, 864, 865, 866, 867, 868, 869, 870, 915, 916, 917, 918, 919, 920, 921, 922, 923, 924, 925, 926] (by decide +kernel) (by decide +kernel)
set_option maxRecDepth 20000 in
theorem gL_law_X6_softer : GoodIn wsL_law (wsV RL 114 RX6 yX6_softer wsX6_softer) := goodIn_app (goodIn_of _ (by decide +kernel)) ggL_law_X6_softer
set_option maxRecDepth 20000 in
theorem ggL_law_X7_softer : GoodIn wsL_law wsX7_softer := goodIn_r _ [690, 115, 330, 331, 332, 5, 333, 255, 97, 85, 258, 334, 335, 257, 336, 337, 259, 338, 606, 607, 608, 609, 637, 638, 639, 640, 339, 340, 341, 342, 83, 343, 344, 345, 346, 84, 347, 348, 349, 350, 351, 352, 353, 82, 354, 355, 356, 357, 358, 359, 360, 361, 362, 363, 364, 365, 366, 367, 368, 369, 370, 371, 372, 373, 374, 375, 376, 377, 378, 379, 380, 86, 871, 872, 873, 874, 875, 876, 877, 878, 879, 880, 881, 882, 883, 884, 885, 886, 887, 888, 889, 890, 891, 892, 893, 894, 895, 896, 897, 898, 899, 900, 901, 902, 903, 904, 905, 906, 907, 908, 909, 910] (by decide +kernel) (by decide +kernel)
set_option maxRecDepth 20000 in
theorem gL_law_X7_softer : GoodIn wsL_law (wsV RL 117 RX7 yX7_softer wsX7_softer) := goodIn_app (goodIn_of _ (by decide +kernel)) ggL_law_X7_softer
set_option maxRecDepth 20000 in
theorem ggL_law_X6_overhears : GoodIn wsL_law wsX6_overhears := goodIn_r _ [694, 20, 385, 386, 387, 19, 388, 146, 391, 307, 308, 309, 310, 270, 271, 272, 147, 273, 274, 275, 276, 277, 278, 279, 280, 281, 282, 283, 284, 51, 150, 52, 285, 286, 287, 288, 148, 311, 312, 313, 314, 315, 316, 317, 318, 50, 319, 2, 320, 425, 863, 864, 865, 866, 867, 868, 869, 870, 915, 916, 917, 918, 919, 920, 921, 922, 923, 924, 925, 926] (by decide +kernel) (by decide +kernel)
set_option maxRecDepth 20000 in
theorem gL_law_X6_overhears : GoodIn wsL_law (wsV RL 118 RX6 yX6_overhears wsX6_overhears) := goodIn_app (goodIn_of _ (by decide +kernel)) ggL_law_X6_overhears
set_option maxRecDepth 20000 in
theorem ggL_law_X7_overhears : GoodIn wsL_law wsX7_overhears := goodIn_r _ [698, 115, 255, 83, 397, 398, 399, 5, 400, 118, 119, 120, 330, 331, 332, 333, 97, 85, 258, 334, 335, 257, 336, 337, 259, 338, 370, 371, 372, 373, 343, 344, 345, 346, 84, 347, 348, 349, 374, 375, 376, 354, 355, 356, 357, 358, 359, 360, 361, 362, 363, 364, 365, 366, 367, 368, 369, 871, 872, 873, 874, 875, 876, 877, 878, 879, 880, 881, 882, 883, 884, 885, 886, 887, 888, 889, 890, 891, 892, 893, 894, 895, 896, 897, 898, 899, 900, 901, 902, 903, 904, 905, 906, 907, 908, 909, 910] (by decide +kernel) (by decide +kernel)
set_option maxRecDepth 20000 in
theorem gL_law_X7_overhears : GoodIn wsL_law (wsV RL 121 RX7 yX7_overhears wsX7_overhears) := goodIn_app (goodIn_of _ (by decide +kernel)) ggL_law_X7_overhears
set_option maxRecDepth 20000 in
theorem ggL_law_X6_quietest : GoodIn wsL_law wsX6_quietest := goodIn_r _ [702, 20, 703, 177, 178, 19, 179, 146, 50, 391, 307, 308, 309, 310, 270, 271, 272, 147, 273, 274, 275, 276, 277, 278, 279, 280, 281, 282, 283, 284, 51, 150, 52, 285, 286, 287, 288, 148, 311, 312, 313, 314, 315, 316, 317, 318, 319, 2, 320, 863, 864, 865, 866, 867, 868, 869, 870, 915, 916, 917, 918, 919, 920, 921, 922, 923, 924, 925, 926] (by decide +kernel) (by decide +kernel)
set_option maxRecDepth 20000 in
theorem gL_law_X6_quietest : GoodIn wsL_law (wsV RL 122 RX6 yX6_quietest wsX6_quietest) := goodIn_app (goodIn_of _ (by decide +kernel)) ggL_law_X6_quietest
set_option maxRecDepth 20000 in
theorem ggL_law_X7_quietest : GoodIn wsL_law wsX7_quietest := goodIn_r _ [707, 115, 708, 330, 331, 332, 5, 333, 255, 97, 85, 258, 334, 335, 257, 336, 337, 259, 338, 533, 534, 535, 536, 83, 354, 355, 356, 357, 358, 359, 360, 361, 362, 363, 364, 365, 343, 344, 345, 346, 84, 347, 348, 349, 366, 367, 368, 369, 370, 371, 372, 373, 374, 375, 376, 871, 872, 873, 874, 875, 876, 877, 878, 879, 880, 881, 882, 883, 884, 885, 886, 887, 888, 889, 890, 891, 892, 893, 894, 895, 896, 897, 898, 899, 900, 901, 902, 903, 904, 905, 906, 907, 908, 909, 910] (by decide +kernel) (by decide +kernel)
set_option maxRecDepth 20000 in
theorem gL_law_X7_quietest : GoodIn wsL_law (wsV RL 125 RX7 yX7_quietest wsX7_quietest) := goodIn_app (goodIn_of _ (by decide +kernel)) ggL_law_X7_quietest
set_option maxRecDepth 20000 in
theorem ggL_law_X6_tables : GoodIn wsL_law wsX6_tables := goodIn_r _ [712, 713, 714, 2, 715, 716, 717, 718, 719, 720, 721, 722, 723, 724, 725, 726, 727, 728, 729, 730, 20, 622, 477, 275, 478, 731, 732, 733, 734, 735, 736, 737, 738, 739, 19, 740, 146, 50, 476, 319, 320, 863, 864, 865, 866, 867, 868, 869, 870, 915, 916, 917, 918, 919, 920, 921, 922, 923, 924, 925, 926] (by decide +kernel) (by decide +kernel)
set_option maxRecDepth 20000 in
theorem gL_law_X6_tables : GoodIn wsL_law (wsV RL 126 RX6 yX6_tables wsX6_tables) := goodIn_app (goodIn_of _ (by decide +kernel)) ggL_law_X6_tables
set_option maxRecDepth 20000 in
theorem ggL_law_X7_tables : GoodIn wsL_law wsX7_tables := goodIn_r _ [744, 115, 745, 420, 118, 119, 5, 120, 746, 747, 748, 749, 99, 100, 101, 533, 534, 535, 536, 255, 83, 750, 751, 752, 753, 374, 375, 376, 871, 872, 873, 874, 875, 876, 877, 878, 879, 880, 881, 882, 883, 884, 885, 886, 887, 888, 889, 890, 891, 892, 893, 894, 895, 896, 897, 898, 899, 900, 901, 902, 903, 904, 905, 906, 907, 908, 909, 910] (by decide +kernel) (by decide +kernel)
set_option maxRecDepth 20000 in
theorem gL_law_X7_tables : GoodIn wsL_law (wsV RL 130 RX7 yX7_tables wsX7_tables) := goodIn_app (goodIn_of _ (by decide +kernel)) ggL_law_X7_tables
set_option maxRecDepth 20000 in
theorem ggL_law_X6_tableAt : GoodIn wsL_law wsX6_tableAt := goodIn_r _ [757, 713, 714, 2, 715, 716, 717, 718, 719, 720, 721, 722, 723, 724, 725, 726, 727, 728, 729, 730, 20, 622, 477, 275, 478, 731, 732, 733, 734, 735, 736, 737, 738, 739, 19, 740, 146, 50, 476, 319, 320, 863, 864, 865, 866, 867, 868, 869, 870, 915, 916, 917, 918, 919, 920, 921, 922, 923, 924, 925, 926] (by decide +kernel) (by decide +kernel)
set_option maxRecDepth 20000 in
theorem gL_law_X6_tableAt : GoodIn wsL_law (wsV RL 131 RX6 yX6_tableAt wsX6_tableAt) := goodIn_app (goodIn_of _ (by decide +kernel)) ggL_law_X6_tableAt
set_option maxRecDepth 20000 in
theorem ggL_law_X7_tableAt : GoodIn wsL_law wsX7_tableAt := goodIn_r _ [761, 115, 745, 420, 101, 118, 119, 5, 120, 746, 747, 748, 749, 99, 100, 533, 534, 535, 536, 255, 83, 750, 751, 752, 753, 374, 375, 376, 871, 872, 873, 874, 875, 876, 877, 878, 879, 880, 881, 882, 883, 884, 885, 886, 887, 888, 889, 890, 891, 892, 893, 894, 895, 896, 897, 898, 899, 900, 901, 902, 903, 904, 905, 906, 907, 908, 909, 910] (by decide +kernel) (by decide +kernel)
set_option maxRecDepth 20000 in
theorem gL_law_X7_tableAt : GoodIn wsL_law (wsV RL 135 RX7 yX7_tableAt wsX7_tableAt) := goodIn_app (goodIn_of _ (by decide +kernel)) ggL_law_X7_tableAt
set_option maxRecDepth 20000 in
theorem ggL_law_X6_chance : GoodIn wsL_law wsX6_chance := goodIn_r _ [765, 20, 766, 767, 21, 768, 769, 275, 770, 385, 386, 387, 19, 388, 146, 229, 230, 231, 232, 147, 149, 233, 234, 235, 236, 49, 50, 51, 52, 53, 148, 150, 771, 772, 773, 2, 774, 392, 295, 296, 297, 298, 299, 300, 301, 281, 282, 283, 284, 302, 303, 304, 305, 273, 274, 276, 306, 307, 308, 309, 310, 270, 271, 272, 277, 278, 279, 280, 285, 286, 287, 288, 311, 312, 313, 314, 315, 316, 317, 318, 319, 320, 321, 322, 323, 324, 775, 776, 777, 863, 864, 865, 866, 867, 868, 869, 870, 915, 916, 917, 918, 919, 920, 921, 922, 923, 924, 925, 926] (by decide +kernel) (by decide +kernel)
set_option maxRecDepth 20000 in
theorem gL_law_X6_chance : GoodIn wsL_law (wsV RL 136 RX6 yX6_chance wsX6_chance) := goodIn_app (goodIn_of _ (by decide +kernel)) ggL_law_X6_chance
set_option maxRecDepth 20000 in
theorem ggL_law_X7_chance : GoodIn wsL_law wsX7_chance := goodIn_r _ [781, 115, 782, 783, 784, 255, 337, 397, 398, 399, 5, 400, 118, 119, 120, 330, 331, 332, 333, 97, 85, 258, 334, 335, 257, 336, 259, 338, 347, 348, 349, 339, 340, 341, 342, 83, 343, 344, 345, 346, 84, 350, 351, 352, 353, 82, 354, 355, 356, 357, 358, 359, 360, 361, 362, 363, 364, 365, 366, 367, 368, 369, 370, 371, 372, 373, 374, 375, 376, 377, 378, 379, 380, 86, 785, 786, 787, 871, 872, 873, 874, 875, 876, 877, 878, 879, 880, 881, 882, 883, 884, 885, 886, 887, 888, 889, 890, 891, 892, 893, 894, 895, 896, 897, 898, 899, 900, 901, 902, 903, 904, 905, 906, 907, 908, 909, 910] (by decide +kernel) (by decide +kernel)
set_option maxRecDepth 20000 in
theorem gL_law_X7_chance : GoodIn wsL_law (wsV RL 140 RX7 yX7_chance wsX7_chance) := goodIn_app (goodIn_of _ (by decide +kernel)) ggL_law_X7_chance
set_option maxRecDepth 20000 in
theorem ggL_law_X6_meter : GoodIn wsL_law wsX6_meter := goodIn_r _ [791, 34, 792, 793, 794, 33, 795, 796, 69, 70, 863, 864, 865, 866, 867, 868, 869, 870, 932, 933, 934] (by decide +kernel) (by decide +kernel)
set_option maxRecDepth 20000 in
theorem gL_law_X6_meter : GoodIn wsL_law (wsV RL 141 RX6 yX6_meter wsX6_meter) := goodIn_app (goodIn_of _ (by decide +kernel)) ggL_law_X6_meter
set_option maxRecDepth 20000 in
theorem ggL_law_X7_meter : GoodIn wsL_law wsX7_meter := goodIn_r _ [800, 115, 801, 802, 329, 95, 96, 118, 119, 5, 120, 871, 872, 873, 874, 875, 876, 877, 878, 879, 880, 881, 882, 883, 884, 885, 886, 887, 888, 889, 890, 891, 892, 893, 894, 895, 896, 897, 898, 899, 900, 901, 902, 903, 904, 905, 906, 907, 908, 909, 910] (by decide +kernel) (by decide +kernel)
set_option maxRecDepth 20000 in
theorem gL_law_X7_meter : GoodIn wsL_law (wsV RL 144 RX7 yX7_meter wsX7_meter) := goodIn_app (goodIn_of _ (by decide +kernel)) ggL_law_X7_meter
set_option maxRecDepth 20000 in
theorem ggL_law_X6_unmeter : GoodIn wsL_law wsX6_unmeter := goodIn_r _ [806, 34, 807, 808, 809, 33, 810, 796, 863, 864, 865, 866, 867, 868, 869, 870, 932, 933, 934] (by decide +kernel) (by decide +kernel)
set_option maxRecDepth 20000 in
theorem gL_law_X6_unmeter : GoodIn wsL_law (wsV RL 145 RX6 yX6_unmeter wsX6_unmeter) := goodIn_app (goodIn_of _ (by decide +kernel)) ggL_law_X6_unmeter
set_option maxRecDepth 20000 in
theorem ggL_law_X7_unmeter : GoodIn wsL_law wsX7_unmeter := goodIn_r _ [814, 115, 329, 871, 872, 873, 874, 875, 876, 877, 878, 879, 880, 881, 882, 883, 884, 885, 886, 887, 888, 889, 890, 891, 892, 893, 894, 895, 896, 897, 898, 899, 900, 901, 902, 903, 904, 905, 906, 907, 908, 909, 910] (by decide +kernel) (by decide +kernel)
set_option maxRecDepth 20000 in
theorem gL_law_X7_unmeter : GoodIn wsL_law (wsV RL 148 RX7 yX7_unmeter wsX7_unmeter) := goodIn_app (goodIn_of _ (by decide +kernel)) ggL_law_X7_unmeter
set_option maxRecDepth 20000 in
theorem ggL_law_X6_came : GoodIn wsL_law wsX6_came := goodIn_r _ [818, 20, 618, 619, 620, 2, 621, 21, 622, 477, 275, 478, 229, 230, 231, 19, 232, 147, 149, 233, 234, 235, 236, 146, 49, 50, 51, 52, 53, 148, 150, 566, 567, 568, 569, 819, 820, 821, 822, 34, 269, 270, 271, 272, 273, 274, 276, 277, 278, 279, 280, 281, 282, 283, 284, 285, 286, 287, 288, 823, 824, 825, 33, 826, 796, 69, 70, 827, 828, 829, 467, 468, 469, 470, 54, 471, 310, 311, 312, 313, 314, 315, 316, 317, 318, 319, 320, 472, 473, 474, 475, 476, 298, 299, 300, 301, 302, 303, 304, 305, 321, 322, 323, 324, 479, 480, 481, 482, 487, 488, 489, 490, 863, 864, 865, 866, 867, 868, 869, 870, 915, 916, 917, 918, 919, 920, 921, 922, 923, 924, 925, 926, 932, 933, 934] (by decide +kernel) (by decide +kernel)
set_option maxRecDepth 20000 in
theorem gL_law_X6_came : GoodIn wsL_law (wsV RL 149 RX6 yX6_came wsX6_came) := goodIn_app (goodIn_of _ (by decide +kernel)) ggL_law_X6_came
set_option maxRecDepth 20000 in
theorem ggL_law_X7_came : GoodIn wsL_law wsX7_came := goodIn_r _ [833, 115, 255, 335, 329, 95, 96, 330, 331, 332, 5, 333, 97, 85, 258, 334, 257, 336, 337, 259, 338, 606, 607, 608, 609, 358, 359, 360, 361, 362, 363, 364, 365, 343, 344, 345, 346, 84, 347, 348, 349, 366, 367, 368, 369, 118, 119, 120, 503, 504, 505, 506, 98, 507, 508, 509, 510, 511, 512, 513, 514, 82, 83, 354, 355, 356, 357, 370, 371, 372, 373, 374, 375, 376, 350, 351, 352, 353, 377, 378, 379, 380, 86, 871, 872, 873, 874, 875, 876, 877, 878, 879, 880, 881, 882, 883, 884, 885, 886, 887, 888, 889, 890, 891, 892, 893, 894, 895, 896, 897, 898, 899, 900, 901, 902, 903, 904, 905, 906, 907, 908, 909, 910] (by decide +kernel) (by decide +kernel)
set_option maxRecDepth 20000 in
theorem gL_law_X7_came : GoodIn wsL_law (wsV RL 152 RX7 yX7_came wsX7_came) := goodIn_app (goodIn_of _ (by decide +kernel)) ggL_law_X7_came
set_option maxRecDepth 20000 in
theorem ggL_law_X6_keep : GoodIn wsL_law wsX6_keep := goodIn_r _ [837, 38, 20, 838, 839, 840, 37, 841, 76, 250, 842, 230, 231, 19, 232, 147, 149, 233, 234, 235, 236, 146, 49, 50, 51, 52, 53, 148, 150, 863, 864, 865, 866, 867, 868, 869, 870, 915, 916, 917, 918, 919, 920, 921, 922, 923, 924, 925, 926, 935, 936] (by decide +kernel) (by decide +kernel)
set_option maxRecDepth 20000 in
theorem gL_law_X6_keep : GoodIn wsL_law (wsV RL 153 RX6 yX6_keep wsX6_keep) := goodIn_app (goodIn_of _ (by decide +kernel)) ggL_law_X6_keep
set_option maxRecDepth 20000 in
theorem ggL_law_X7_keep : GoodIn wsL_law wsX7_keep := goodIn_r _ [846, 115, 94, 92, 257, 259, 255, 118, 119, 5, 120, 499, 500, 501, 502, 82, 83, 84, 85, 86, 258, 871, 872, 873, 874, 875, 876, 877, 878, 879, 880, 881, 882, 883, 884, 885, 886, 887, 888, 889, 890, 891, 892, 893, 894, 895, 896, 897, 898, 899, 900, 901, 902, 903, 904, 905, 906, 907, 908, 909, 910] (by decide +kernel) (by decide +kernel)
set_option maxRecDepth 20000 in
theorem gL_law_X7_keep : GoodIn wsL_law (wsV RL 156 RX7 yX7_keep wsX7_keep) := goodIn_app (goodIn_of _ (by decide +kernel)) ggL_law_X7_keep
set_option maxRecDepth 20000 in
theorem ggL_law_X6_again : GoodIn wsL_law wsX6_again := goodIn_r _ [850, 38, 20, 30, 851, 852, 853, 37, 854, 250, 855, 856, 857, 858, 76, 229, 230, 231, 19, 232, 147, 149, 233, 234, 235, 236, 146, 49, 50, 51, 52, 53, 148, 150, 241, 242, 243, 29, 244, 245, 863, 864, 865, 866, 867, 868, 869, 870, 915, 916, 917, 918, 919, 920, 921, 922, 923, 924, 925, 926, 935, 936, 930, 931] (by decide +kernel) (by decide +kernel)
set_option maxRecDepth 20000 in
theorem gL_law_X6_again : GoodIn wsL_law (wsV RL 157 RX6 yX6_again wsX6_again) := goodIn_app (goodIn_of _ (by decide +kernel)) ggL_law_X6_again
set_option maxRecDepth 20000 in
theorem ggL_law_X7_again : GoodIn wsL_law wsX7_again := goodIn_r _ [862, 115, 94, 92, 257, 259, 260, 255, 118, 119, 5, 120, 586, 587, 588, 589, 82, 83, 84, 85, 86, 258, 871, 872, 873, 874, 875, 876, 877, 878, 879, 880, 881, 882, 883, 884, 885, 886, 887, 888, 889, 890, 891, 892, 893, 894, 895, 896, 897, 898, 899, 900, 901, 902, 903, 904, 905, 906, 907, 908, 909, 910] (by decide +kernel) (by decide +kernel)
set_option maxRecDepth 20000 in
theorem gL_law_X7_again : GoodIn wsL_law (wsV RL 160 RX7 yX7_again wsX7_again) := goodIn_app (goodIn_of _ (by decide +kernel)) ggL_law_X7_again
theorem dL_law_0 : decode cL_law 0 = .ok (.new 7, 3) := by decide +kernel
theorem dL_law_3 : decode cL_law 3 = .ok (.dup, 1) := by decide +kernel
theorem dL_law_4 : decode cL_law 4 = .ok (.invokespecial 9, 3) := by decide +kernel
theorem dL_law_7 : decode cL_law 7 = .ok (.astore_n 1, 1) := by decide +kernel
theorem dL_law_8 : decode cL_law 8 = .ok (.new 10, 3) := by decide +kernel
theorem dL_law_11 : decode cL_law 11 = .ok (.dup, 1) := by decide +kernel
theorem dL_law_12 : decode cL_law 12 = .ok (.invokespecial 12, 3) := by decide +kernel
theorem dL_law_15 : decode cL_law 15 = .ok (.astore_n 2, 1) := by decide +kernel
theorem dL_law_16 : decode cL_law 16 = .ok (.iconst 0, 1) := by decide +kernel
theorem dL_law_17 : decode cL_law 17 = .ok (.istore_n 3, 1) := by decide +kernel
theorem dL_law_18 : decode cL_law 18 = .ok (.iload_n 3, 1) := by decide +kernel
theorem dL_law_19 : decode cL_law 19 = .ok (.aload_n 0, 1) := by decide +kernel
theorem dL_law_20 : decode cL_law 20 = .ok (.arraylength, 1) := by decide +kernel
theorem dL_law_21 : decode cL_law 21 = .ok (.iconst 5, 1) := by decide +kernel
theorem dL_law_22 : decode cL_law 22 = .ok (.isub, 1) := by decide +kernel
theorem dL_law_23 : decode cL_law 23 = .ok (.if_icmp .gt 1126, 3) := by decide +kernel
theorem dL_law_26 : decode cL_law 26 = .ok (.aload_n 0, 1) := by decide +kernel
theorem dL_law_27 : decode cL_law 27 = .ok (.iload_n 3, 1) := by decide +kernel
theorem dL_law_28 : decode cL_law 28 = .ok (.iaload, 1) := by decide +kernel
theorem dL_law_29 : decode cL_law 29 = .ok (.bipush 63, 2) := by decide +kernel
theorem dL_law_31 : decode cL_law 31 = .ok (.iand, 1) := by decide +kernel
theorem dL_law_32 : decode cL_law 32 = .ok (.tableswitch 1111 0 33 #[152, 215, 228, 241, 254, 277, 310, 343, 376, 419, 452, 501, 524, 537, 560, 593, 616, 629, 642, 691, 704, 717, 756, 769, 782, 805, 818, 877, 946, 1006, 1039, 1052, 1065, 1088], 152) := by decide +kernel
theorem dL_law_184 : decode cL_law 184 = .ok (.aload_n 1, 1) := by decide +kernel
theorem dL_law_185 : decode cL_law 185 = .ok (.aload_n 0, 1) := by decide +kernel
theorem dL_law_186 : decode cL_law 186 = .ok (.iload_n 3, 1) := by decide +kernel
theorem dL_law_187 : decode cL_law 187 = .ok (.iconst 1, 1) := by decide +kernel
theorem dL_law_188 : decode cL_law 188 = .ok (.iadd, 1) := by decide +kernel
theorem dL_law_189 : decode cL_law 189 = .ok (.iaload, 1) := by decide +kernel
theorem dL_law_190 : decode cL_law 190 = .ok (.aload_n 0, 1) := by decide +kernel
theorem dL_law_191 : decode cL_law 191 = .ok (.iload_n 3, 1) := by decide +kernel
theorem dL_law_192 : decode cL_law 192 = .ok (.iconst 2, 1) := by decide +kernel
theorem dL_law_193 : decode cL_law 193 = .ok (.iadd, 1) := by decide +kernel
theorem dL_law_194 : decode cL_law 194 = .ok (.iaload, 1) := by decide +kernel
theorem dL_law_195 : decode cL_law 195 = .ok (.i2l, 1) := by decide +kernel
theorem dL_law_196 : decode cL_law 196 = .ok (.bipush 32, 2) := by decide +kernel
theorem dL_law_198 : decode cL_law 198 = .ok (.lshl, 1) := by decide +kernel
theorem dL_law_199 : decode cL_law 199 = .ok (.aload_n 0, 1) := by decide +kernel
theorem dL_law_200 : decode cL_law 200 = .ok (.iload_n 3, 1) := by decide +kernel
theorem dL_law_201 : decode cL_law 201 = .ok (.iconst 3, 1) := by decide +kernel
theorem dL_law_202 : decode cL_law 202 = .ok (.iadd, 1) := by decide +kernel
theorem dL_law_203 : decode cL_law 203 = .ok (.iaload, 1) := by decide +kernel
theorem dL_law_204 : decode cL_law 204 = .ok (.i2l, 1) := by decide +kernel
theorem dL_law_205 : decode cL_law 205 = .ok (.ldc2_w 13, 3) := by decide +kernel
theorem dL_law_208 : decode cL_law 208 = .ok (.land, 1) := by decide +kernel
theorem dL_law_209 : decode cL_law 209 = .ok (.lor, 1) := by decide +kernel
theorem dL_law_210 : decode cL_law 210 = .ok (.invokevirtual 15, 3) := by decide +kernel
theorem dL_law_213 : decode cL_law 213 = .ok (.aload_n 2, 1) := by decide +kernel
theorem dL_law_214 : decode cL_law 214 = .ok (.aload_n 0, 1) := by decide +kernel
theorem dL_law_215 : decode cL_law 215 = .ok (.iload_n 3, 1) := by decide +kernel
theorem dL_law_216 : decode cL_law 216 = .ok (.iconst 1, 1) := by decide +kernel
theorem dL_law_217 : decode cL_law 217 = .ok (.iadd, 1) := by decide +kernel
theorem dL_law_218 : decode cL_law 218 = .ok (.iaload, 1) := by decide +kernel
theorem dL_law_219 : decode cL_law 219 = .ok (.aload_n 0, 1) := by decide +kernel
theorem dL_law_220 : decode cL_law 220 = .ok (.iload_n 3, 1) := by decide +kernel
theorem dL_law_221 : decode cL_law 221 = .ok (.iconst 2, 1) := by decide +kernel
theorem dL_law_222 : decode cL_law 222 = .ok (.iadd, 1) := by decide +kernel
theorem dL_law_223 : decode cL_law 223 = .ok (.iaload, 1) := by decide +kernel
theorem dL_law_224 : decode cL_law 224 = .ok (.i2l, 1) := by decide +kernel
theorem dL_law_225 : decode cL_law 225 = .ok (.bipush 32, 2) := by decide +kernel
theorem dL_law_227 : decode cL_law 227 = .ok (.lshl, 1) := by decide +kernel
theorem dL_law_228 : decode cL_law 228 = .ok (.aload_n 0, 1) := by decide +kernel
theorem dL_law_229 : decode cL_law 229 = .ok (.iload_n 3, 1) := by decide +kernel
theorem dL_law_230 : decode cL_law 230 = .ok (.iconst 3, 1) := by decide +kernel
theorem dL_law_231 : decode cL_law 231 = .ok (.iadd, 1) := by decide +kernel
theorem dL_law_232 : decode cL_law 232 = .ok (.iaload, 1) := by decide +kernel
theorem dL_law_233 : decode cL_law 233 = .ok (.i2l, 1) := by decide +kernel
theorem dL_law_234 : decode cL_law 234 = .ok (.ldc2_w 13, 3) := by decide +kernel
theorem dL_law_237 : decode cL_law 237 = .ok (.land, 1) := by decide +kernel
theorem dL_law_238 : decode cL_law 238 = .ok (.lor, 1) := by decide +kernel
theorem dL_law_239 : decode cL_law 239 = .ok (.invokevirtual 19, 3) := by decide +kernel
theorem dL_law_242 : decode cL_law 242 = .ok (.if_icmp .eq 901, 3) := by decide +kernel
theorem dL_law_245 : decode cL_law 245 = .ok (.iconst 0, 1) := by decide +kernel
theorem dL_law_246 : decode cL_law 246 = .ok (.ireturn, 1) := by decide +kernel
theorem dL_law_247 : decode cL_law 247 = .ok (.aload_n 1, 1) := by decide +kernel
theorem dL_law_248 : decode cL_law 248 = .ok (.invokevirtual 20, 3) := by decide +kernel
theorem dL_law_251 : decode cL_law 251 = .ok (.aload_n 2, 1) := by decide +kernel
theorem dL_law_252 : decode cL_law 252 = .ok (.invokevirtual 24, 3) := by decide +kernel
theorem dL_law_255 : decode cL_law 255 = .ok (.if_icmp .eq 888, 3) := by decide +kernel
theorem dL_law_258 : decode cL_law 258 = .ok (.iconst 0, 1) := by decide +kernel
theorem dL_law_259 : decode cL_law 259 = .ok (.ireturn, 1) := by decide +kernel
theorem dL_law_260 : decode cL_law 260 = .ok (.aload_n 1, 1) := by decide +kernel
theorem dL_law_261 : decode cL_law 261 = .ok (.invokevirtual 25, 3) := by decide +kernel
theorem dL_law_264 : decode cL_law 264 = .ok (.aload_n 2, 1) := by decide +kernel
theorem dL_law_265 : decode cL_law 265 = .ok (.invokevirtual 28, 3) := by decide +kernel
theorem dL_law_268 : decode cL_law 268 = .ok (.if_icmp .eq 875, 3) := by decide +kernel
theorem dL_law_271 : decode cL_law 271 = .ok (.iconst 0, 1) := by decide +kernel
theorem dL_law_272 : decode cL_law 272 = .ok (.ireturn, 1) := by decide +kernel
theorem dL_law_273 : decode cL_law 273 = .ok (.aload_n 1, 1) := by decide +kernel
theorem dL_law_274 : decode cL_law 274 = .ok (.invokevirtual 29, 3) := by decide +kernel
theorem dL_law_277 : decode cL_law 277 = .ok (.aload_n 2, 1) := by decide +kernel
theorem dL_law_278 : decode cL_law 278 = .ok (.invokevirtual 32, 3) := by decide +kernel
theorem dL_law_281 : decode cL_law 281 = .ok (.if_icmp .eq 862, 3) := by decide +kernel
theorem dL_law_284 : decode cL_law 284 = .ok (.iconst 0, 1) := by decide +kernel
theorem dL_law_285 : decode cL_law 285 = .ok (.ireturn, 1) := by decide +kernel
theorem dL_law_286 : decode cL_law 286 = .ok (.aload_n 1, 1) := by decide +kernel
theorem dL_law_287 : decode cL_law 287 = .ok (.aload_n 0, 1) := by decide +kernel
theorem dL_law_288 : decode cL_law 288 = .ok (.iload_n 3, 1) := by decide +kernel
theorem dL_law_289 : decode cL_law 289 = .ok (.iconst 1, 1) := by decide +kernel
theorem dL_law_290 : decode cL_law 290 = .ok (.iadd, 1) := by decide +kernel
theorem dL_law_291 : decode cL_law 291 = .ok (.iaload, 1) := by decide +kernel
theorem dL_law_292 : decode cL_law 292 = .ok (.invokevirtual 33, 3) := by decide +kernel
theorem dL_law_295 : decode cL_law 295 = .ok (.aload_n 2, 1) := by decide +kernel
theorem dL_law_296 : decode cL_law 296 = .ok (.aload_n 0, 1) := by decide +kernel
theorem dL_law_297 : decode cL_law 297 = .ok (.iload_n 3, 1) := by decide +kernel
theorem dL_law_298 : decode cL_law 298 = .ok (.iconst 1, 1) := by decide +kernel
theorem dL_law_299 : decode cL_law 299 = .ok (.iadd, 1) := by decide +kernel
theorem dL_law_300 : decode cL_law 300 = .ok (.iaload, 1) := by decide +kernel
theorem dL_law_301 : decode cL_law 301 = .ok (.invokevirtual 37, 3) := by decide +kernel
theorem dL_law_304 : decode cL_law 304 = .ok (.if_icmp .eq 839, 3) := by decide +kernel
theorem dL_law_307 : decode cL_law 307 = .ok (.iconst 0, 1) := by decide +kernel
theorem dL_law_308 : decode cL_law 308 = .ok (.ireturn, 1) := by decide +kernel
theorem dL_law_309 : decode cL_law 309 = .ok (.aload_n 1, 1) := by decide +kernel
theorem dL_law_310 : decode cL_law 310 = .ok (.aload_n 0, 1) := by decide +kernel
theorem dL_law_311 : decode cL_law 311 = .ok (.iload_n 3, 1) := by decide +kernel
theorem dL_law_312 : decode cL_law 312 = .ok (.iconst 1, 1) := by decide +kernel
theorem dL_law_313 : decode cL_law 313 = .ok (.iadd, 1) := by decide +kernel
theorem dL_law_314 : decode cL_law 314 = .ok (.iaload, 1) := by decide +kernel
theorem dL_law_315 : decode cL_law 315 = .ok (.aload_n 0, 1) := by decide +kernel
theorem dL_law_316 : decode cL_law 316 = .ok (.iload_n 3, 1) := by decide +kernel
theorem dL_law_317 : decode cL_law 317 = .ok (.iconst 2, 1) := by decide +kernel
theorem dL_law_318 : decode cL_law 318 = .ok (.iadd, 1) := by decide +kernel
theorem dL_law_319 : decode cL_law 319 = .ok (.iaload, 1) := by decide +kernel
theorem dL_law_320 : decode cL_law 320 = .ok (.invokevirtual 38, 3) := by decide +kernel
theorem dL_law_323 : decode cL_law 323 = .ok (.aload_n 2, 1) := by decide +kernel
theorem dL_law_324 : decode cL_law 324 = .ok (.aload_n 0, 1) := by decide +kernel
theorem dL_law_325 : decode cL_law 325 = .ok (.iload_n 3, 1) := by decide +kernel
theorem dL_law_326 : decode cL_law 326 = .ok (.iconst 1, 1) := by decide +kernel
theorem dL_law_327 : decode cL_law 327 = .ok (.iadd, 1) := by decide +kernel
theorem dL_law_328 : decode cL_law 328 = .ok (.iaload, 1) := by decide +kernel
theorem dL_law_329 : decode cL_law 329 = .ok (.aload_n 0, 1) := by decide +kernel
theorem dL_law_330 : decode cL_law 330 = .ok (.iload_n 3, 1) := by decide +kernel
theorem dL_law_331 : decode cL_law 331 = .ok (.iconst 2, 1) := by decide +kernel
theorem dL_law_332 : decode cL_law 332 = .ok (.iadd, 1) := by decide +kernel
theorem dL_law_333 : decode cL_law 333 = .ok (.iaload, 1) := by decide +kernel
theorem dL_law_334 : decode cL_law 334 = .ok (.invokevirtual 42, 3) := by decide +kernel
theorem dL_law_337 : decode cL_law 337 = .ok (.if_icmp .eq 806, 3) := by decide +kernel
theorem dL_law_340 : decode cL_law 340 = .ok (.iconst 0, 1) := by decide +kernel
theorem dL_law_341 : decode cL_law 341 = .ok (.ireturn, 1) := by decide +kernel
theorem dL_law_342 : decode cL_law 342 = .ok (.aload_n 1, 1) := by decide +kernel
theorem dL_law_343 : decode cL_law 343 = .ok (.aload_n 0, 1) := by decide +kernel
theorem dL_law_344 : decode cL_law 344 = .ok (.iload_n 3, 1) := by decide +kernel
theorem dL_law_345 : decode cL_law 345 = .ok (.iconst 1, 1) := by decide +kernel
theorem dL_law_346 : decode cL_law 346 = .ok (.iadd, 1) := by decide +kernel
theorem dL_law_347 : decode cL_law 347 = .ok (.iaload, 1) := by decide +kernel
theorem dL_law_348 : decode cL_law 348 = .ok (.aload_n 0, 1) := by decide +kernel
theorem dL_law_349 : decode cL_law 349 = .ok (.iload_n 3, 1) := by decide +kernel
theorem dL_law_350 : decode cL_law 350 = .ok (.iconst 2, 1) := by decide +kernel
theorem dL_law_351 : decode cL_law 351 = .ok (.iadd, 1) := by decide +kernel
theorem dL_law_352 : decode cL_law 352 = .ok (.iaload, 1) := by decide +kernel
theorem dL_law_353 : decode cL_law 353 = .ok (.invokevirtual 43, 3) := by decide +kernel
theorem dL_law_356 : decode cL_law 356 = .ok (.aload_n 2, 1) := by decide +kernel
theorem dL_law_357 : decode cL_law 357 = .ok (.aload_n 0, 1) := by decide +kernel
theorem dL_law_358 : decode cL_law 358 = .ok (.iload_n 3, 1) := by decide +kernel
theorem dL_law_359 : decode cL_law 359 = .ok (.iconst 1, 1) := by decide +kernel
theorem dL_law_360 : decode cL_law 360 = .ok (.iadd, 1) := by decide +kernel
theorem dL_law_361 : decode cL_law 361 = .ok (.iaload, 1) := by decide +kernel
theorem dL_law_362 : decode cL_law 362 = .ok (.aload_n 0, 1) := by decide +kernel
theorem dL_law_363 : decode cL_law 363 = .ok (.iload_n 3, 1) := by decide +kernel
theorem dL_law_364 : decode cL_law 364 = .ok (.iconst 2, 1) := by decide +kernel
theorem dL_law_365 : decode cL_law 365 = .ok (.iadd, 1) := by decide +kernel
theorem dL_law_366 : decode cL_law 366 = .ok (.iaload, 1) := by decide +kernel
theorem dL_law_367 : decode cL_law 367 = .ok (.invokevirtual 46, 3) := by decide +kernel
theorem dL_law_370 : decode cL_law 370 = .ok (.if_icmp .eq 773, 3) := by decide +kernel
theorem dL_law_373 : decode cL_law 373 = .ok (.iconst 0, 1) := by decide +kernel
theorem dL_law_374 : decode cL_law 374 = .ok (.ireturn, 1) := by decide +kernel
theorem dL_law_375 : decode cL_law 375 = .ok (.aload_n 1, 1) := by decide +kernel
theorem dL_law_376 : decode cL_law 376 = .ok (.aload_n 0, 1) := by decide +kernel
theorem dL_law_377 : decode cL_law 377 = .ok (.iload_n 3, 1) := by decide +kernel
theorem dL_law_378 : decode cL_law 378 = .ok (.iconst 1, 1) := by decide +kernel
theorem dL_law_379 : decode cL_law 379 = .ok (.iadd, 1) := by decide +kernel
theorem dL_law_380 : decode cL_law 380 = .ok (.iaload, 1) := by decide +kernel
theorem dL_law_381 : decode cL_law 381 = .ok (.aload_n 0, 1) := by decide +kernel
theorem dL_law_382 : decode cL_law 382 = .ok (.iload_n 3, 1) := by decide +kernel
theorem dL_law_383 : decode cL_law 383 = .ok (.iconst 2, 1) := by decide +kernel
theorem dL_law_384 : decode cL_law 384 = .ok (.iadd, 1) := by decide +kernel
theorem dL_law_385 : decode cL_law 385 = .ok (.iaload, 1) := by decide +kernel
theorem dL_law_386 : decode cL_law 386 = .ok (.invokevirtual 47, 3) := by decide +kernel
theorem dL_law_389 : decode cL_law 389 = .ok (.aload_n 2, 1) := by decide +kernel
theorem dL_law_390 : decode cL_law 390 = .ok (.aload_n 0, 1) := by decide +kernel
theorem dL_law_391 : decode cL_law 391 = .ok (.iload_n 3, 1) := by decide +kernel
theorem dL_law_392 : decode cL_law 392 = .ok (.iconst 1, 1) := by decide +kernel
theorem dL_law_393 : decode cL_law 393 = .ok (.iadd, 1) := by decide +kernel
theorem dL_law_394 : decode cL_law 394 = .ok (.iaload, 1) := by decide +kernel
theorem dL_law_395 : decode cL_law 395 = .ok (.aload_n 0, 1) := by decide +kernel
theorem dL_law_396 : decode cL_law 396 = .ok (.iload_n 3, 1) := by decide +kernel
theorem dL_law_397 : decode cL_law 397 = .ok (.iconst 2, 1) := by decide +kernel
theorem dL_law_398 : decode cL_law 398 = .ok (.iadd, 1) := by decide +kernel
theorem dL_law_399 : decode cL_law 399 = .ok (.iaload, 1) := by decide +kernel
theorem dL_law_400 : decode cL_law 400 = .ok (.invokevirtual 50, 3) := by decide +kernel
theorem dL_law_403 : decode cL_law 403 = .ok (.if_icmp .eq 740, 3) := by decide +kernel
theorem dL_law_406 : decode cL_law 406 = .ok (.iconst 0, 1) := by decide +kernel
theorem dL_law_407 : decode cL_law 407 = .ok (.ireturn, 1) := by decide +kernel
theorem dL_law_408 : decode cL_law 408 = .ok (.aload_n 1, 1) := by decide +kernel
theorem dL_law_409 : decode cL_law 409 = .ok (.aload_n 0, 1) := by decide +kernel
theorem dL_law_410 : decode cL_law 410 = .ok (.iload_n 3, 1) := by decide +kernel
theorem dL_law_411 : decode cL_law 411 = .ok (.iconst 1, 1) := by decide +kernel
theorem dL_law_412 : decode cL_law 412 = .ok (.iadd, 1) := by decide +kernel
theorem dL_law_413 : decode cL_law 413 = .ok (.iaload, 1) := by decide +kernel
theorem dL_law_414 : decode cL_law 414 = .ok (.aload_n 0, 1) := by decide +kernel
theorem dL_law_415 : decode cL_law 415 = .ok (.iload_n 3, 1) := by decide +kernel
theorem dL_law_416 : decode cL_law 416 = .ok (.iconst 2, 1) := by decide +kernel
theorem dL_law_417 : decode cL_law 417 = .ok (.iadd, 1) := by decide +kernel
theorem dL_law_418 : decode cL_law 418 = .ok (.iaload, 1) := by decide +kernel
theorem dL_law_419 : decode cL_law 419 = .ok (.aload_n 0, 1) := by decide +kernel
theorem dL_law_420 : decode cL_law 420 = .ok (.iload_n 3, 1) := by decide +kernel
theorem dL_law_421 : decode cL_law 421 = .ok (.iconst 3, 1) := by decide +kernel
theorem dL_law_422 : decode cL_law 422 = .ok (.iadd, 1) := by decide +kernel
theorem dL_law_423 : decode cL_law 423 = .ok (.iaload, 1) := by decide +kernel
theorem dL_law_424 : decode cL_law 424 = .ok (.invokevirtual 51, 3) := by decide +kernel
theorem dL_law_427 : decode cL_law 427 = .ok (.aload_n 2, 1) := by decide +kernel
theorem dL_law_428 : decode cL_law 428 = .ok (.aload_n 0, 1) := by decide +kernel
theorem dL_law_429 : decode cL_law 429 = .ok (.iload_n 3, 1) := by decide +kernel
theorem dL_law_430 : decode cL_law 430 = .ok (.iconst 1, 1) := by decide +kernel
theorem dL_law_431 : decode cL_law 431 = .ok (.iadd, 1) := by decide +kernel
theorem dL_law_432 : decode cL_law 432 = .ok (.iaload, 1) := by decide +kernel
theorem dL_law_433 : decode cL_law 433 = .ok (.aload_n 0, 1) := by decide +kernel
theorem dL_law_434 : decode cL_law 434 = .ok (.iload_n 3, 1) := by decide +kernel
theorem dL_law_435 : decode cL_law 435 = .ok (.iconst 2, 1) := by decide +kernel
theorem dL_law_436 : decode cL_law 436 = .ok (.iadd, 1) := by decide +kernel
theorem dL_law_437 : decode cL_law 437 = .ok (.iaload, 1) := by decide +kernel
theorem dL_law_438 : decode cL_law 438 = .ok (.aload_n 0, 1) := by decide +kernel
theorem dL_law_439 : decode cL_law 439 = .ok (.iload_n 3, 1) := by decide +kernel
theorem dL_law_440 : decode cL_law 440 = .ok (.iconst 3, 1) := by decide +kernel
theorem dL_law_441 : decode cL_law 441 = .ok (.iadd, 1) := by decide +kernel
theorem dL_law_442 : decode cL_law 442 = .ok (.iaload, 1) := by decide +kernel
theorem dL_law_443 : decode cL_law 443 = .ok (.invokevirtual 55, 3) := by decide +kernel
theorem dL_law_446 : decode cL_law 446 = .ok (.if_icmp .eq 697, 3) := by decide +kernel
theorem dL_law_449 : decode cL_law 449 = .ok (.iconst 0, 1) := by decide +kernel
theorem dL_law_450 : decode cL_law 450 = .ok (.ireturn, 1) := by decide +kernel
theorem dL_law_451 : decode cL_law 451 = .ok (.aload_n 1, 1) := by decide +kernel
theorem dL_law_452 : decode cL_law 452 = .ok (.aload_n 0, 1) := by decide +kernel
theorem dL_law_453 : decode cL_law 453 = .ok (.iload_n 3, 1) := by decide +kernel
theorem dL_law_454 : decode cL_law 454 = .ok (.iconst 1, 1) := by decide +kernel
theorem dL_law_455 : decode cL_law 455 = .ok (.iadd, 1) := by decide +kernel
theorem dL_law_456 : decode cL_law 456 = .ok (.iaload, 1) := by decide +kernel
theorem dL_law_457 : decode cL_law 457 = .ok (.aload_n 0, 1) := by decide +kernel
theorem dL_law_458 : decode cL_law 458 = .ok (.iload_n 3, 1) := by decide +kernel
theorem dL_law_459 : decode cL_law 459 = .ok (.iconst 2, 1) := by decide +kernel
theorem dL_law_460 : decode cL_law 460 = .ok (.iadd, 1) := by decide +kernel
theorem dL_law_461 : decode cL_law 461 = .ok (.iaload, 1) := by decide +kernel
theorem dL_law_462 : decode cL_law 462 = .ok (.invokevirtual 56, 3) := by decide +kernel
theorem dL_law_465 : decode cL_law 465 = .ok (.aload_n 2, 1) := by decide +kernel
theorem dL_law_466 : decode cL_law 466 = .ok (.aload_n 0, 1) := by decide +kernel
theorem dL_law_467 : decode cL_law 467 = .ok (.iload_n 3, 1) := by decide +kernel
theorem dL_law_468 : decode cL_law 468 = .ok (.iconst 1, 1) := by decide +kernel
theorem dL_law_469 : decode cL_law 469 = .ok (.iadd, 1) := by decide +kernel
theorem dL_law_470 : decode cL_law 470 = .ok (.iaload, 1) := by decide +kernel
theorem dL_law_471 : decode cL_law 471 = .ok (.aload_n 0, 1) := by decide +kernel
theorem dL_law_472 : decode cL_law 472 = .ok (.iload_n 3, 1) := by decide +kernel
theorem dL_law_473 : decode cL_law 473 = .ok (.iconst 2, 1) := by decide +kernel
theorem dL_law_474 : decode cL_law 474 = .ok (.iadd, 1) := by decide +kernel
theorem dL_law_475 : decode cL_law 475 = .ok (.iaload, 1) := by decide +kernel
theorem dL_law_476 : decode cL_law 476 = .ok (.invokevirtual 59, 3) := by decide +kernel
theorem dL_law_479 : decode cL_law 479 = .ok (.if_icmp .eq 664, 3) := by decide +kernel
theorem dL_law_482 : decode cL_law 482 = .ok (.iconst 0, 1) := by decide +kernel
theorem dL_law_483 : decode cL_law 483 = .ok (.ireturn, 1) := by decide +kernel
theorem dL_law_484 : decode cL_law 484 = .ok (.aload_n 1, 1) := by decide +kernel
theorem dL_law_485 : decode cL_law 485 = .ok (.aload_n 0, 1) := by decide +kernel
theorem dL_law_486 : decode cL_law 486 = .ok (.iload_n 3, 1) := by decide +kernel
theorem dL_law_487 : decode cL_law 487 = .ok (.iconst 1, 1) := by decide +kernel
theorem dL_law_488 : decode cL_law 488 = .ok (.iadd, 1) := by decide +kernel
theorem dL_law_489 : decode cL_law 489 = .ok (.iaload, 1) := by decide +kernel
theorem dL_law_490 : decode cL_law 490 = .ok (.aload_n 0, 1) := by decide +kernel
theorem dL_law_491 : decode cL_law 491 = .ok (.iload_n 3, 1) := by decide +kernel
theorem dL_law_492 : decode cL_law 492 = .ok (.iconst 2, 1) := by decide +kernel
theorem dL_law_493 : decode cL_law 493 = .ok (.iadd, 1) := by decide +kernel
theorem dL_law_494 : decode cL_law 494 = .ok (.iaload, 1) := by decide +kernel
theorem dL_law_495 : decode cL_law 495 = .ok (.ifCond .eq 7, 3) := by decide +kernel
theorem dL_law_498 : decode cL_law 498 = .ok (.iconst 1, 1) := by decide +kernel
theorem dL_law_499 : decode cL_law 499 = .ok (.goto 4, 3) := by decide +kernel
theorem dL_law_502 : decode cL_law 502 = .ok (.iconst 0, 1) := by decide +kernel
theorem dL_law_503 : decode cL_law 503 = .ok (.invokevirtual 60, 3) := by decide +kernel
theorem dL_law_506 : decode cL_law 506 = .ok (.aload_n 2, 1) := by decide +kernel
theorem dL_law_507 : decode cL_law 507 = .ok (.aload_n 0, 1) := by decide +kernel
theorem dL_law_508 : decode cL_law 508 = .ok (.iload_n 3, 1) := by decide +kernel
theorem dL_law_509 : decode cL_law 509 = .ok (.iconst 1, 1) := by decide +kernel
theorem dL_law_510 : decode cL_law 510 = .ok (.iadd, 1) := by decide +kernel
theorem dL_law_511 : decode cL_law 511 = .ok (.iaload, 1) := by decide +kernel
theorem dL_law_512 : decode cL_law 512 = .ok (.aload_n 0, 1) := by decide +kernel
theorem dL_law_513 : decode cL_law 513 = .ok (.iload_n 3, 1) := by decide +kernel
theorem dL_law_514 : decode cL_law 514 = .ok (.iconst 2, 1) := by decide +kernel
theorem dL_law_515 : decode cL_law 515 = .ok (.iadd, 1) := by decide +kernel
theorem dL_law_516 : decode cL_law 516 = .ok (.iaload, 1) := by decide +kernel
theorem dL_law_517 : decode cL_law 517 = .ok (.ifCond .eq 7, 3) := by decide +kernel
theorem dL_law_520 : decode cL_law 520 = .ok (.iconst 1, 1) := by decide +kernel
theorem dL_law_521 : decode cL_law 521 = .ok (.goto 4, 3) := by decide +kernel
theorem dL_law_524 : decode cL_law 524 = .ok (.iconst 0, 1) := by decide +kernel
theorem dL_law_525 : decode cL_law 525 = .ok (.invokevirtual 64, 3) := by decide +kernel
theorem dL_law_528 : decode cL_law 528 = .ok (.if_icmp .eq 615, 3) := by decide +kernel
theorem dL_law_531 : decode cL_law 531 = .ok (.iconst 0, 1) := by decide +kernel
theorem dL_law_532 : decode cL_law 532 = .ok (.ireturn, 1) := by decide +kernel
theorem dL_law_533 : decode cL_law 533 = .ok (.aload_n 1, 1) := by decide +kernel
theorem dL_law_534 : decode cL_law 534 = .ok (.aload_n 0, 1) := by decide +kernel
theorem dL_law_535 : decode cL_law 535 = .ok (.iload_n 3, 1) := by decide +kernel
theorem dL_law_536 : decode cL_law 536 = .ok (.iconst 1, 1) := by decide +kernel
theorem dL_law_537 : decode cL_law 537 = .ok (.iadd, 1) := by decide +kernel
theorem dL_law_538 : decode cL_law 538 = .ok (.iaload, 1) := by decide +kernel
theorem dL_law_539 : decode cL_law 539 = .ok (.invokevirtual 65, 3) := by decide +kernel
theorem dL_law_542 : decode cL_law 542 = .ok (.aload_n 2, 1) := by decide +kernel
theorem dL_law_543 : decode cL_law 543 = .ok (.aload_n 0, 1) := by decide +kernel
theorem dL_law_544 : decode cL_law 544 = .ok (.iload_n 3, 1) := by decide +kernel
theorem dL_law_545 : decode cL_law 545 = .ok (.iconst 1, 1) := by decide +kernel
theorem dL_law_546 : decode cL_law 546 = .ok (.iadd, 1) := by decide +kernel
theorem dL_law_547 : decode cL_law 547 = .ok (.iaload, 1) := by decide +kernel
theorem dL_law_548 : decode cL_law 548 = .ok (.invokevirtual 68, 3) := by decide +kernel
theorem dL_law_551 : decode cL_law 551 = .ok (.if_icmp .eq 592, 3) := by decide +kernel
theorem dL_law_554 : decode cL_law 554 = .ok (.iconst 0, 1) := by decide +kernel
theorem dL_law_555 : decode cL_law 555 = .ok (.ireturn, 1) := by decide +kernel
theorem dL_law_556 : decode cL_law 556 = .ok (.aload_n 1, 1) := by decide +kernel
theorem dL_law_557 : decode cL_law 557 = .ok (.invokevirtual 69, 3) := by decide +kernel
theorem dL_law_560 : decode cL_law 560 = .ok (.aload_n 2, 1) := by decide +kernel
theorem dL_law_561 : decode cL_law 561 = .ok (.invokevirtual 72, 3) := by decide +kernel
theorem dL_law_564 : decode cL_law 564 = .ok (.if_icmp .eq 579, 3) := by decide +kernel
theorem dL_law_567 : decode cL_law 567 = .ok (.iconst 0, 1) := by decide +kernel
theorem dL_law_568 : decode cL_law 568 = .ok (.ireturn, 1) := by decide +kernel
theorem dL_law_569 : decode cL_law 569 = .ok (.aload_n 1, 1) := by decide +kernel
theorem dL_law_570 : decode cL_law 570 = .ok (.aload_n 0, 1) := by decide +kernel
theorem dL_law_571 : decode cL_law 571 = .ok (.iload_n 3, 1) := by decide +kernel
theorem dL_law_572 : decode cL_law 572 = .ok (.iconst 1, 1) := by decide +kernel
theorem dL_law_573 : decode cL_law 573 = .ok (.iadd, 1) := by decide +kernel
theorem dL_law_574 : decode cL_law 574 = .ok (.iaload, 1) := by decide +kernel
theorem dL_law_575 : decode cL_law 575 = .ok (.invokevirtual 73, 3) := by decide +kernel
theorem dL_law_578 : decode cL_law 578 = .ok (.aload_n 2, 1) := by decide +kernel
theorem dL_law_579 : decode cL_law 579 = .ok (.aload_n 0, 1) := by decide +kernel
theorem dL_law_580 : decode cL_law 580 = .ok (.iload_n 3, 1) := by decide +kernel
theorem dL_law_581 : decode cL_law 581 = .ok (.iconst 1, 1) := by decide +kernel
theorem dL_law_582 : decode cL_law 582 = .ok (.iadd, 1) := by decide +kernel
theorem dL_law_583 : decode cL_law 583 = .ok (.iaload, 1) := by decide +kernel
theorem dL_law_584 : decode cL_law 584 = .ok (.invokevirtual 76, 3) := by decide +kernel
theorem dL_law_587 : decode cL_law 587 = .ok (.if_icmp .eq 556, 3) := by decide +kernel
theorem dL_law_590 : decode cL_law 590 = .ok (.iconst 0, 1) := by decide +kernel
theorem dL_law_591 : decode cL_law 591 = .ok (.ireturn, 1) := by decide +kernel
theorem dL_law_592 : decode cL_law 592 = .ok (.aload_n 1, 1) := by decide +kernel
theorem dL_law_593 : decode cL_law 593 = .ok (.aload_n 0, 1) := by decide +kernel
theorem dL_law_594 : decode cL_law 594 = .ok (.iload_n 3, 1) := by decide +kernel
theorem dL_law_595 : decode cL_law 595 = .ok (.iconst 1, 1) := by decide +kernel
theorem dL_law_596 : decode cL_law 596 = .ok (.iadd, 1) := by decide +kernel
theorem dL_law_597 : decode cL_law 597 = .ok (.iaload, 1) := by decide +kernel
theorem dL_law_598 : decode cL_law 598 = .ok (.aload_n 0, 1) := by decide +kernel
theorem dL_law_599 : decode cL_law 599 = .ok (.iload_n 3, 1) := by decide +kernel
theorem dL_law_600 : decode cL_law 600 = .ok (.iconst 2, 1) := by decide +kernel
theorem dL_law_601 : decode cL_law 601 = .ok (.iadd, 1) := by decide +kernel
theorem dL_law_602 : decode cL_law 602 = .ok (.iaload, 1) := by decide +kernel
theorem dL_law_603 : decode cL_law 603 = .ok (.invokevirtual 77, 3) := by decide +kernel
theorem dL_law_606 : decode cL_law 606 = .ok (.aload_n 2, 1) := by decide +kernel
theorem dL_law_607 : decode cL_law 607 = .ok (.aload_n 0, 1) := by decide +kernel
theorem dL_law_608 : decode cL_law 608 = .ok (.iload_n 3, 1) := by decide +kernel
theorem dL_law_609 : decode cL_law 609 = .ok (.iconst 1, 1) := by decide +kernel
theorem dL_law_610 : decode cL_law 610 = .ok (.iadd, 1) := by decide +kernel
theorem dL_law_611 : decode cL_law 611 = .ok (.iaload, 1) := by decide +kernel
theorem dL_law_612 : decode cL_law 612 = .ok (.aload_n 0, 1) := by decide +kernel
theorem dL_law_613 : decode cL_law 613 = .ok (.iload_n 3, 1) := by decide +kernel
theorem dL_law_614 : decode cL_law 614 = .ok (.iconst 2, 1) := by decide +kernel
theorem dL_law_615 : decode cL_law 615 = .ok (.iadd, 1) := by decide +kernel
theorem dL_law_616 : decode cL_law 616 = .ok (.iaload, 1) := by decide +kernel
theorem dL_law_617 : decode cL_law 617 = .ok (.invokevirtual 80, 3) := by decide +kernel
theorem dL_law_620 : decode cL_law 620 = .ok (.if_icmp .eq 523, 3) := by decide +kernel
theorem dL_law_623 : decode cL_law 623 = .ok (.iconst 0, 1) := by decide +kernel
theorem dL_law_624 : decode cL_law 624 = .ok (.ireturn, 1) := by decide +kernel
theorem dL_law_625 : decode cL_law 625 = .ok (.aload_n 1, 1) := by decide +kernel
theorem dL_law_626 : decode cL_law 626 = .ok (.aload_n 0, 1) := by decide +kernel
theorem dL_law_627 : decode cL_law 627 = .ok (.iload_n 3, 1) := by decide +kernel
theorem dL_law_628 : decode cL_law 628 = .ok (.iconst 1, 1) := by decide +kernel
theorem dL_law_629 : decode cL_law 629 = .ok (.iadd, 1) := by decide +kernel
theorem dL_law_630 : decode cL_law 630 = .ok (.iaload, 1) := by decide +kernel
theorem dL_law_631 : decode cL_law 631 = .ok (.invokevirtual 81, 3) := by decide +kernel
theorem dL_law_634 : decode cL_law 634 = .ok (.aload_n 2, 1) := by decide +kernel
theorem dL_law_635 : decode cL_law 635 = .ok (.aload_n 0, 1) := by decide +kernel
theorem dL_law_636 : decode cL_law 636 = .ok (.iload_n 3, 1) := by decide +kernel
theorem dL_law_637 : decode cL_law 637 = .ok (.iconst 1, 1) := by decide +kernel
theorem dL_law_638 : decode cL_law 638 = .ok (.iadd, 1) := by decide +kernel
theorem dL_law_639 : decode cL_law 639 = .ok (.iaload, 1) := by decide +kernel
theorem dL_law_640 : decode cL_law 640 = .ok (.invokevirtual 84, 3) := by decide +kernel
theorem dL_law_643 : decode cL_law 643 = .ok (.if_icmp .eq 500, 3) := by decide +kernel
theorem dL_law_646 : decode cL_law 646 = .ok (.iconst 0, 1) := by decide +kernel
theorem dL_law_647 : decode cL_law 647 = .ok (.ireturn, 1) := by decide +kernel
theorem dL_law_648 : decode cL_law 648 = .ok (.aload_n 1, 1) := by decide +kernel
theorem dL_law_649 : decode cL_law 649 = .ok (.invokevirtual 85, 3) := by decide +kernel
theorem dL_law_652 : decode cL_law 652 = .ok (.aload_n 2, 1) := by decide +kernel
theorem dL_law_653 : decode cL_law 653 = .ok (.invokevirtual 88, 3) := by decide +kernel
theorem dL_law_656 : decode cL_law 656 = .ok (.if_icmp .eq 487, 3) := by decide +kernel
theorem dL_law_659 : decode cL_law 659 = .ok (.iconst 0, 1) := by decide +kernel
theorem dL_law_660 : decode cL_law 660 = .ok (.ireturn, 1) := by decide +kernel
theorem dL_law_661 : decode cL_law 661 = .ok (.aload_n 1, 1) := by decide +kernel
theorem dL_law_662 : decode cL_law 662 = .ok (.invokevirtual 89, 3) := by decide +kernel
theorem dL_law_665 : decode cL_law 665 = .ok (.aload_n 2, 1) := by decide +kernel
theorem dL_law_666 : decode cL_law 666 = .ok (.invokevirtual 92, 3) := by decide +kernel
theorem dL_law_669 : decode cL_law 669 = .ok (.if_icmp .eq 474, 3) := by decide +kernel
theorem dL_law_672 : decode cL_law 672 = .ok (.iconst 0, 1) := by decide +kernel
theorem dL_law_673 : decode cL_law 673 = .ok (.ireturn, 1) := by decide +kernel
theorem dL_law_674 : decode cL_law 674 = .ok (.aload_n 1, 1) := by decide +kernel
theorem dL_law_675 : decode cL_law 675 = .ok (.aload_n 0, 1) := by decide +kernel
theorem dL_law_676 : decode cL_law 676 = .ok (.iload_n 3, 1) := by decide +kernel
theorem dL_law_677 : decode cL_law 677 = .ok (.iconst 1, 1) := by decide +kernel
theorem dL_law_678 : decode cL_law 678 = .ok (.iadd, 1) := by decide +kernel
theorem dL_law_679 : decode cL_law 679 = .ok (.iaload, 1) := by decide +kernel
theorem dL_law_680 : decode cL_law 680 = .ok (.aload_n 0, 1) := by decide +kernel
theorem dL_law_681 : decode cL_law 681 = .ok (.iload_n 3, 1) := by decide +kernel
theorem dL_law_682 : decode cL_law 682 = .ok (.iconst 2, 1) := by decide +kernel
theorem dL_law_683 : decode cL_law 683 = .ok (.iadd, 1) := by decide +kernel
theorem dL_law_684 : decode cL_law 684 = .ok (.iaload, 1) := by decide +kernel
theorem dL_law_685 : decode cL_law 685 = .ok (.ifCond .eq 7, 3) := by decide +kernel
theorem dL_law_688 : decode cL_law 688 = .ok (.iconst 1, 1) := by decide +kernel
theorem dL_law_689 : decode cL_law 689 = .ok (.goto 4, 3) := by decide +kernel
theorem dL_law_692 : decode cL_law 692 = .ok (.iconst 0, 1) := by decide +kernel
theorem dL_law_693 : decode cL_law 693 = .ok (.invokevirtual 93, 3) := by decide +kernel
theorem dL_law_696 : decode cL_law 696 = .ok (.aload_n 2, 1) := by decide +kernel
theorem dL_law_697 : decode cL_law 697 = .ok (.aload_n 0, 1) := by decide +kernel
theorem dL_law_698 : decode cL_law 698 = .ok (.iload_n 3, 1) := by decide +kernel
theorem dL_law_699 : decode cL_law 699 = .ok (.iconst 1, 1) := by decide +kernel
theorem dL_law_700 : decode cL_law 700 = .ok (.iadd, 1) := by decide +kernel
theorem dL_law_701 : decode cL_law 701 = .ok (.iaload, 1) := by decide +kernel
theorem dL_law_702 : decode cL_law 702 = .ok (.aload_n 0, 1) := by decide +kernel
theorem dL_law_703 : decode cL_law 703 = .ok (.iload_n 3, 1) := by decide +kernel
theorem dL_law_704 : decode cL_law 704 = .ok (.iconst 2, 1) := by decide +kernel
theorem dL_law_705 : decode cL_law 705 = .ok (.iadd, 1) := by decide +kernel
theorem dL_law_706 : decode cL_law 706 = .ok (.iaload, 1) := by decide +kernel
theorem dL_law_707 : decode cL_law 707 = .ok (.ifCond .eq 7, 3) := by decide +kernel
theorem dL_law_710 : decode cL_law 710 = .ok (.iconst 1, 1) := by decide +kernel
theorem dL_law_711 : decode cL_law 711 = .ok (.goto 4, 3) := by decide +kernel
theorem dL_law_714 : decode cL_law 714 = .ok (.iconst 0, 1) := by decide +kernel
theorem dL_law_715 : decode cL_law 715 = .ok (.invokevirtual 96, 3) := by decide +kernel
theorem dL_law_718 : decode cL_law 718 = .ok (.if_icmp .eq 425, 3) := by decide +kernel
theorem dL_law_721 : decode cL_law 721 = .ok (.iconst 0, 1) := by decide +kernel
theorem dL_law_722 : decode cL_law 722 = .ok (.ireturn, 1) := by decide +kernel
theorem dL_law_723 : decode cL_law 723 = .ok (.aload_n 1, 1) := by decide +kernel
theorem dL_law_724 : decode cL_law 724 = .ok (.invokevirtual 97, 3) := by decide +kernel
theorem dL_law_727 : decode cL_law 727 = .ok (.aload_n 2, 1) := by decide +kernel
theorem dL_law_728 : decode cL_law 728 = .ok (.invokevirtual 100, 3) := by decide +kernel
theorem dL_law_731 : decode cL_law 731 = .ok (.if_icmp .eq 412, 3) := by decide +kernel
theorem dL_law_734 : decode cL_law 734 = .ok (.iconst 0, 1) := by decide +kernel
theorem dL_law_735 : decode cL_law 735 = .ok (.ireturn, 1) := by decide +kernel
theorem dL_law_736 : decode cL_law 736 = .ok (.aload_n 1, 1) := by decide +kernel
theorem dL_law_737 : decode cL_law 737 = .ok (.invokevirtual 101, 3) := by decide +kernel
theorem dL_law_740 : decode cL_law 740 = .ok (.aload_n 2, 1) := by decide +kernel
theorem dL_law_741 : decode cL_law 741 = .ok (.invokevirtual 104, 3) := by decide +kernel
theorem dL_law_744 : decode cL_law 744 = .ok (.if_icmp .eq 399, 3) := by decide +kernel
theorem dL_law_747 : decode cL_law 747 = .ok (.iconst 0, 1) := by decide +kernel
theorem dL_law_748 : decode cL_law 748 = .ok (.ireturn, 1) := by decide +kernel
theorem dL_law_749 : decode cL_law 749 = .ok (.aload_n 1, 1) := by decide +kernel
theorem dL_law_750 : decode cL_law 750 = .ok (.aload_n 0, 1) := by decide +kernel
theorem dL_law_751 : decode cL_law 751 = .ok (.iload_n 3, 1) := by decide +kernel
theorem dL_law_752 : decode cL_law 752 = .ok (.iconst 1, 1) := by decide +kernel
theorem dL_law_753 : decode cL_law 753 = .ok (.iadd, 1) := by decide +kernel
theorem dL_law_754 : decode cL_law 754 = .ok (.iaload, 1) := by decide +kernel
theorem dL_law_755 : decode cL_law 755 = .ok (.ifCond .eq 7, 3) := by decide +kernel
theorem dL_law_758 : decode cL_law 758 = .ok (.iconst 1, 1) := by decide +kernel
theorem dL_law_759 : decode cL_law 759 = .ok (.goto 4, 3) := by decide +kernel
theorem dL_law_762 : decode cL_law 762 = .ok (.iconst 0, 1) := by decide +kernel
theorem dL_law_763 : decode cL_law 763 = .ok (.invokevirtual 105, 3) := by decide +kernel
theorem dL_law_766 : decode cL_law 766 = .ok (.aload_n 2, 1) := by decide +kernel
theorem dL_law_767 : decode cL_law 767 = .ok (.aload_n 0, 1) := by decide +kernel
theorem dL_law_768 : decode cL_law 768 = .ok (.iload_n 3, 1) := by decide +kernel
theorem dL_law_769 : decode cL_law 769 = .ok (.iconst 1, 1) := by decide +kernel
theorem dL_law_770 : decode cL_law 770 = .ok (.iadd, 1) := by decide +kernel
theorem dL_law_771 : decode cL_law 771 = .ok (.iaload, 1) := by decide +kernel
theorem dL_law_772 : decode cL_law 772 = .ok (.ifCond .eq 7, 3) := by decide +kernel
theorem dL_law_775 : decode cL_law 775 = .ok (.iconst 1, 1) := by decide +kernel
theorem dL_law_776 : decode cL_law 776 = .ok (.goto 4, 3) := by decide +kernel
theorem dL_law_779 : decode cL_law 779 = .ok (.iconst 0, 1) := by decide +kernel
theorem dL_law_780 : decode cL_law 780 = .ok (.invokevirtual 109, 3) := by decide +kernel
theorem dL_law_783 : decode cL_law 783 = .ok (.if_icmp .eq 360, 3) := by decide +kernel
theorem dL_law_786 : decode cL_law 786 = .ok (.iconst 0, 1) := by decide +kernel
theorem dL_law_787 : decode cL_law 787 = .ok (.ireturn, 1) := by decide +kernel
theorem dL_law_788 : decode cL_law 788 = .ok (.aload_n 1, 1) := by decide +kernel
theorem dL_law_789 : decode cL_law 789 = .ok (.invokevirtual 110, 3) := by decide +kernel
theorem dL_law_792 : decode cL_law 792 = .ok (.aload_n 2, 1) := by decide +kernel
theorem dL_law_793 : decode cL_law 793 = .ok (.invokevirtual 113, 3) := by decide +kernel
theorem dL_law_796 : decode cL_law 796 = .ok (.if_icmp .eq 347, 3) := by decide +kernel
theorem dL_law_799 : decode cL_law 799 = .ok (.iconst 0, 1) := by decide +kernel
theorem dL_law_800 : decode cL_law 800 = .ok (.ireturn, 1) := by decide +kernel
theorem dL_law_801 : decode cL_law 801 = .ok (.aload_n 1, 1) := by decide +kernel
theorem dL_law_802 : decode cL_law 802 = .ok (.invokevirtual 114, 3) := by decide +kernel
theorem dL_law_805 : decode cL_law 805 = .ok (.aload_n 2, 1) := by decide +kernel
theorem dL_law_806 : decode cL_law 806 = .ok (.invokevirtual 117, 3) := by decide +kernel
theorem dL_law_809 : decode cL_law 809 = .ok (.if_icmp .eq 334, 3) := by decide +kernel
theorem dL_law_812 : decode cL_law 812 = .ok (.iconst 0, 1) := by decide +kernel
theorem dL_law_813 : decode cL_law 813 = .ok (.ireturn, 1) := by decide +kernel
theorem dL_law_814 : decode cL_law 814 = .ok (.aload_n 1, 1) := by decide +kernel
theorem dL_law_815 : decode cL_law 815 = .ok (.aload_n 0, 1) := by decide +kernel
theorem dL_law_816 : decode cL_law 816 = .ok (.iload_n 3, 1) := by decide +kernel
theorem dL_law_817 : decode cL_law 817 = .ok (.iconst 1, 1) := by decide +kernel
theorem dL_law_818 : decode cL_law 818 = .ok (.iadd, 1) := by decide +kernel
theorem dL_law_819 : decode cL_law 819 = .ok (.iaload, 1) := by decide +kernel
theorem dL_law_820 : decode cL_law 820 = .ok (.invokevirtual 118, 3) := by decide +kernel
theorem dL_law_823 : decode cL_law 823 = .ok (.aload_n 2, 1) := by decide +kernel
theorem dL_law_824 : decode cL_law 824 = .ok (.aload_n 0, 1) := by decide +kernel
theorem dL_law_825 : decode cL_law 825 = .ok (.iload_n 3, 1) := by decide +kernel
theorem dL_law_826 : decode cL_law 826 = .ok (.iconst 1, 1) := by decide +kernel
theorem dL_law_827 : decode cL_law 827 = .ok (.iadd, 1) := by decide +kernel
theorem dL_law_828 : decode cL_law 828 = .ok (.iaload, 1) := by decide +kernel
theorem dL_law_829 : decode cL_law 829 = .ok (.invokevirtual 121, 3) := by decide +kernel
theorem dL_law_832 : decode cL_law 832 = .ok (.if_icmp .eq 311, 3) := by decide +kernel
theorem dL_law_835 : decode cL_law 835 = .ok (.iconst 0, 1) := by decide +kernel
theorem dL_law_836 : decode cL_law 836 = .ok (.ireturn, 1) := by decide +kernel
theorem dL_law_837 : decode cL_law 837 = .ok (.aload_n 1, 1) := by decide +kernel
theorem dL_law_838 : decode cL_law 838 = .ok (.invokevirtual 122, 3) := by decide +kernel
theorem dL_law_841 : decode cL_law 841 = .ok (.aload_n 2, 1) := by decide +kernel
theorem dL_law_842 : decode cL_law 842 = .ok (.invokevirtual 125, 3) := by decide +kernel
theorem dL_law_845 : decode cL_law 845 = .ok (.if_icmp .eq 298, 3) := by decide +kernel
theorem dL_law_848 : decode cL_law 848 = .ok (.iconst 0, 1) := by decide +kernel
theorem dL_law_849 : decode cL_law 849 = .ok (.ireturn, 1) := by decide +kernel
theorem dL_law_850 : decode cL_law 850 = .ok (.aload_n 1, 1) := by decide +kernel
theorem dL_law_851 : decode cL_law 851 = .ok (.aload_n 0, 1) := by decide +kernel
theorem dL_law_852 : decode cL_law 852 = .ok (.iload_n 3, 1) := by decide +kernel
theorem dL_law_853 : decode cL_law 853 = .ok (.iconst 1, 1) := by decide +kernel
theorem dL_law_854 : decode cL_law 854 = .ok (.iadd, 1) := by decide +kernel
theorem dL_law_855 : decode cL_law 855 = .ok (.iaload, 1) := by decide +kernel
theorem dL_law_856 : decode cL_law 856 = .ok (.aload_n 0, 1) := by decide +kernel
theorem dL_law_857 : decode cL_law 857 = .ok (.iload_n 3, 1) := by decide +kernel
theorem dL_law_858 : decode cL_law 858 = .ok (.iconst 2, 1) := by decide +kernel
theorem dL_law_859 : decode cL_law 859 = .ok (.iadd, 1) := by decide +kernel
theorem dL_law_860 : decode cL_law 860 = .ok (.iaload, 1) := by decide +kernel
theorem dL_law_861 : decode cL_law 861 = .ok (.ifCond .eq 7, 3) := by decide +kernel
theorem dL_law_864 : decode cL_law 864 = .ok (.iconst 1, 1) := by decide +kernel
theorem dL_law_865 : decode cL_law 865 = .ok (.goto 4, 3) := by decide +kernel
theorem dL_law_868 : decode cL_law 868 = .ok (.iconst 0, 1) := by decide +kernel
theorem dL_law_869 : decode cL_law 869 = .ok (.aload_n 0, 1) := by decide +kernel
theorem dL_law_870 : decode cL_law 870 = .ok (.iload_n 3, 1) := by decide +kernel
theorem dL_law_871 : decode cL_law 871 = .ok (.iconst 3, 1) := by decide +kernel
theorem dL_law_872 : decode cL_law 872 = .ok (.iadd, 1) := by decide +kernel
theorem dL_law_873 : decode cL_law 873 = .ok (.iaload, 1) := by decide +kernel
theorem dL_law_874 : decode cL_law 874 = .ok (.invokevirtual 126, 3) := by decide +kernel
theorem dL_law_877 : decode cL_law 877 = .ok (.aload_n 2, 1) := by decide +kernel
theorem dL_law_878 : decode cL_law 878 = .ok (.aload_n 0, 1) := by decide +kernel
theorem dL_law_879 : decode cL_law 879 = .ok (.iload_n 3, 1) := by decide +kernel
theorem dL_law_880 : decode cL_law 880 = .ok (.iconst 1, 1) := by decide +kernel
theorem dL_law_881 : decode cL_law 881 = .ok (.iadd, 1) := by decide +kernel
theorem dL_law_882 : decode cL_law 882 = .ok (.iaload, 1) := by decide +kernel
theorem dL_law_883 : decode cL_law 883 = .ok (.aload_n 0, 1) := by decide +kernel
theorem dL_law_884 : decode cL_law 884 = .ok (.iload_n 3, 1) := by decide +kernel
theorem dL_law_885 : decode cL_law 885 = .ok (.iconst 2, 1) := by decide +kernel
theorem dL_law_886 : decode cL_law 886 = .ok (.iadd, 1) := by decide +kernel
theorem dL_law_887 : decode cL_law 887 = .ok (.iaload, 1) := by decide +kernel
theorem dL_law_888 : decode cL_law 888 = .ok (.ifCond .eq 7, 3) := by decide +kernel
theorem dL_law_891 : decode cL_law 891 = .ok (.iconst 1, 1) := by decide +kernel
theorem dL_law_892 : decode cL_law 892 = .ok (.goto 4, 3) := by decide +kernel
theorem dL_law_895 : decode cL_law 895 = .ok (.iconst 0, 1) := by decide +kernel
theorem dL_law_896 : decode cL_law 896 = .ok (.aload_n 0, 1) := by decide +kernel
theorem dL_law_897 : decode cL_law 897 = .ok (.iload_n 3, 1) := by decide +kernel
theorem dL_law_898 : decode cL_law 898 = .ok (.iconst 3, 1) := by decide +kernel
theorem dL_law_899 : decode cL_law 899 = .ok (.iadd, 1) := by decide +kernel
theorem dL_law_900 : decode cL_law 900 = .ok (.iaload, 1) := by decide +kernel
theorem dL_law_901 : decode cL_law 901 = .ok (.invokevirtual 130, 3) := by decide +kernel
theorem dL_law_904 : decode cL_law 904 = .ok (.if_icmp .eq 239, 3) := by decide +kernel
theorem dL_law_907 : decode cL_law 907 = .ok (.iconst 0, 1) := by decide +kernel
theorem dL_law_908 : decode cL_law 908 = .ok (.ireturn, 1) := by decide +kernel
theorem dL_law_909 : decode cL_law 909 = .ok (.aload_n 1, 1) := by decide +kernel
theorem dL_law_910 : decode cL_law 910 = .ok (.aload_n 0, 1) := by decide +kernel
theorem dL_law_911 : decode cL_law 911 = .ok (.iload_n 3, 1) := by decide +kernel
theorem dL_law_912 : decode cL_law 912 = .ok (.iconst 1, 1) := by decide +kernel
theorem dL_law_913 : decode cL_law 913 = .ok (.iadd, 1) := by decide +kernel
theorem dL_law_914 : decode cL_law 914 = .ok (.iaload, 1) := by decide +kernel
theorem dL_law_915 : decode cL_law 915 = .ok (.aload_n 0, 1) := by decide +kernel
theorem dL_law_916 : decode cL_law 916 = .ok (.iload_n 3, 1) := by decide +kernel
theorem dL_law_917 : decode cL_law 917 = .ok (.iconst 2, 1) := by decide +kernel
theorem dL_law_918 : decode cL_law 918 = .ok (.iadd, 1) := by decide +kernel
theorem dL_law_919 : decode cL_law 919 = .ok (.iaload, 1) := by decide +kernel
theorem dL_law_920 : decode cL_law 920 = .ok (.ifCond .eq 7, 3) := by decide +kernel
theorem dL_law_923 : decode cL_law 923 = .ok (.iconst 1, 1) := by decide +kernel
theorem dL_law_924 : decode cL_law 924 = .ok (.goto 4, 3) := by decide +kernel
theorem dL_law_927 : decode cL_law 927 = .ok (.iconst 0, 1) := by decide +kernel
theorem dL_law_928 : decode cL_law 928 = .ok (.aload_n 0, 1) := by decide +kernel
theorem dL_law_929 : decode cL_law 929 = .ok (.iload_n 3, 1) := by decide +kernel
theorem dL_law_930 : decode cL_law 930 = .ok (.iconst 3, 1) := by decide +kernel
theorem dL_law_931 : decode cL_law 931 = .ok (.iadd, 1) := by decide +kernel
theorem dL_law_932 : decode cL_law 932 = .ok (.iaload, 1) := by decide +kernel
theorem dL_law_933 : decode cL_law 933 = .ok (.aload_n 0, 1) := by decide +kernel
theorem dL_law_934 : decode cL_law 934 = .ok (.iload_n 3, 1) := by decide +kernel
theorem dL_law_935 : decode cL_law 935 = .ok (.iconst 4, 1) := by decide +kernel
theorem dL_law_936 : decode cL_law 936 = .ok (.iadd, 1) := by decide +kernel
theorem dL_law_937 : decode cL_law 937 = .ok (.iaload, 1) := by decide +kernel
theorem dL_law_938 : decode cL_law 938 = .ok (.invokevirtual 131, 3) := by decide +kernel
theorem dL_law_941 : decode cL_law 941 = .ok (.aload_n 2, 1) := by decide +kernel
theorem dL_law_942 : decode cL_law 942 = .ok (.aload_n 0, 1) := by decide +kernel
theorem dL_law_943 : decode cL_law 943 = .ok (.iload_n 3, 1) := by decide +kernel
theorem dL_law_944 : decode cL_law 944 = .ok (.iconst 1, 1) := by decide +kernel
theorem dL_law_945 : decode cL_law 945 = .ok (.iadd, 1) := by decide +kernel
theorem dL_law_946 : decode cL_law 946 = .ok (.iaload, 1) := by decide +kernel
theorem dL_law_947 : decode cL_law 947 = .ok (.aload_n 0, 1) := by decide +kernel
theorem dL_law_948 : decode cL_law 948 = .ok (.iload_n 3, 1) := by decide +kernel
theorem dL_law_949 : decode cL_law 949 = .ok (.iconst 2, 1) := by decide +kernel
theorem dL_law_950 : decode cL_law 950 = .ok (.iadd, 1) := by decide +kernel
theorem dL_law_951 : decode cL_law 951 = .ok (.iaload, 1) := by decide +kernel
theorem dL_law_952 : decode cL_law 952 = .ok (.ifCond .eq 7, 3) := by decide +kernel
theorem dL_law_955 : decode cL_law 955 = .ok (.iconst 1, 1) := by decide +kernel
theorem dL_law_956 : decode cL_law 956 = .ok (.goto 4, 3) := by decide +kernel
theorem dL_law_959 : decode cL_law 959 = .ok (.iconst 0, 1) := by decide +kernel
theorem dL_law_960 : decode cL_law 960 = .ok (.aload_n 0, 1) := by decide +kernel
theorem dL_law_961 : decode cL_law 961 = .ok (.iload_n 3, 1) := by decide +kernel
theorem dL_law_962 : decode cL_law 962 = .ok (.iconst 3, 1) := by decide +kernel
theorem dL_law_963 : decode cL_law 963 = .ok (.iadd, 1) := by decide +kernel
theorem dL_law_964 : decode cL_law 964 = .ok (.iaload, 1) := by decide +kernel
theorem dL_law_965 : decode cL_law 965 = .ok (.aload_n 0, 1) := by decide +kernel
theorem dL_law_966 : decode cL_law 966 = .ok (.iload_n 3, 1) := by decide +kernel
theorem dL_law_967 : decode cL_law 967 = .ok (.iconst 4, 1) := by decide +kernel
theorem dL_law_968 : decode cL_law 968 = .ok (.iadd, 1) := by decide +kernel
theorem dL_law_969 : decode cL_law 969 = .ok (.iaload, 1) := by decide +kernel
theorem dL_law_970 : decode cL_law 970 = .ok (.invokevirtual 135, 3) := by decide +kernel
theorem dL_law_973 : decode cL_law 973 = .ok (.if_icmp .eq 170, 3) := by decide +kernel
theorem dL_law_976 : decode cL_law 976 = .ok (.iconst 0, 1) := by decide +kernel
theorem dL_law_977 : decode cL_law 977 = .ok (.ireturn, 1) := by decide +kernel
theorem dL_law_978 : decode cL_law 978 = .ok (.aload_n 1, 1) := by decide +kernel
theorem dL_law_979 : decode cL_law 979 = .ok (.aload_n 0, 1) := by decide +kernel
theorem dL_law_980 : decode cL_law 980 = .ok (.iload_n 3, 1) := by decide +kernel
theorem dL_law_981 : decode cL_law 981 = .ok (.iconst 1, 1) := by decide +kernel
theorem dL_law_982 : decode cL_law 982 = .ok (.iadd, 1) := by decide +kernel
theorem dL_law_983 : decode cL_law 983 = .ok (.iaload, 1) := by decide +kernel
theorem dL_law_984 : decode cL_law 984 = .ok (.aload_n 0, 1) := by decide +kernel
theorem dL_law_985 : decode cL_law 985 = .ok (.iload_n 3, 1) := by decide +kernel
theorem dL_law_986 : decode cL_law 986 = .ok (.iconst 2, 1) := by decide +kernel
theorem dL_law_987 : decode cL_law 987 = .ok (.iadd, 1) := by decide +kernel
theorem dL_law_988 : decode cL_law 988 = .ok (.iaload, 1) := by decide +kernel
theorem dL_law_989 : decode cL_law 989 = .ok (.aload_n 0, 1) := by decide +kernel
theorem dL_law_990 : decode cL_law 990 = .ok (.iload_n 3, 1) := by decide +kernel
theorem dL_law_991 : decode cL_law 991 = .ok (.iconst 3, 1) := by decide +kernel
theorem dL_law_992 : decode cL_law 992 = .ok (.iadd, 1) := by decide +kernel
theorem dL_law_993 : decode cL_law 993 = .ok (.iaload, 1) := by decide +kernel
theorem dL_law_994 : decode cL_law 994 = .ok (.ifCond .eq 7, 3) := by decide +kernel
theorem dL_law_997 : decode cL_law 997 = .ok (.iconst 1, 1) := by decide +kernel
theorem dL_law_998 : decode cL_law 998 = .ok (.goto 4, 3) := by decide +kernel
theorem dL_law_1001 : decode cL_law 1001 = .ok (.iconst 0, 1) := by decide +kernel
theorem dL_law_1002 : decode cL_law 1002 = .ok (.invokevirtual 136, 3) := by decide +kernel
theorem dL_law_1005 : decode cL_law 1005 = .ok (.aload_n 2, 1) := by decide +kernel
theorem dL_law_1006 : decode cL_law 1006 = .ok (.aload_n 0, 1) := by decide +kernel
theorem dL_law_1007 : decode cL_law 1007 = .ok (.iload_n 3, 1) := by decide +kernel
theorem dL_law_1008 : decode cL_law 1008 = .ok (.iconst 1, 1) := by decide +kernel
theorem dL_law_1009 : decode cL_law 1009 = .ok (.iadd, 1) := by decide +kernel
theorem dL_law_1010 : decode cL_law 1010 = .ok (.iaload, 1) := by decide +kernel
theorem dL_law_1011 : decode cL_law 1011 = .ok (.aload_n 0, 1) := by decide +kernel
theorem dL_law_1012 : decode cL_law 1012 = .ok (.iload_n 3, 1) := by decide +kernel
theorem dL_law_1013 : decode cL_law 1013 = .ok (.iconst 2, 1) := by decide +kernel
theorem dL_law_1014 : decode cL_law 1014 = .ok (.iadd, 1) := by decide +kernel
theorem dL_law_1015 : decode cL_law 1015 = .ok (.iaload, 1) := by decide +kernel
theorem dL_law_1016 : decode cL_law 1016 = .ok (.aload_n 0, 1) := by decide +kernel
theorem dL_law_1017 : decode cL_law 1017 = .ok (.iload_n 3, 1) := by decide +kernel
theorem dL_law_1018 : decode cL_law 1018 = .ok (.iconst 3, 1) := by decide +kernel
theorem dL_law_1019 : decode cL_law 1019 = .ok (.iadd, 1) := by decide +kernel
theorem dL_law_1020 : decode cL_law 1020 = .ok (.iaload, 1) := by decide +kernel
theorem dL_law_1021 : decode cL_law 1021 = .ok (.ifCond .eq 7, 3) := by decide +kernel
theorem dL_law_1024 : decode cL_law 1024 = .ok (.iconst 1, 1) := by decide +kernel
theorem dL_law_1025 : decode cL_law 1025 = .ok (.goto 4, 3) := by decide +kernel
theorem dL_law_1028 : decode cL_law 1028 = .ok (.iconst 0, 1) := by decide +kernel
theorem dL_law_1029 : decode cL_law 1029 = .ok (.invokevirtual 140, 3) := by decide +kernel
theorem dL_law_1032 : decode cL_law 1032 = .ok (.lcmp, 1) := by decide +kernel
theorem dL_law_1033 : decode cL_law 1033 = .ok (.ifCond .eq 110, 3) := by decide +kernel
theorem dL_law_1036 : decode cL_law 1036 = .ok (.iconst 0, 1) := by decide +kernel
theorem dL_law_1037 : decode cL_law 1037 = .ok (.ireturn, 1) := by decide +kernel
theorem dL_law_1038 : decode cL_law 1038 = .ok (.aload_n 1, 1) := by decide +kernel
theorem dL_law_1039 : decode cL_law 1039 = .ok (.aload_n 0, 1) := by decide +kernel
theorem dL_law_1040 : decode cL_law 1040 = .ok (.iload_n 3, 1) := by decide +kernel
theorem dL_law_1041 : decode cL_law 1041 = .ok (.iconst 1, 1) := by decide +kernel
theorem dL_law_1042 : decode cL_law 1042 = .ok (.iadd, 1) := by decide +kernel
theorem dL_law_1043 : decode cL_law 1043 = .ok (.iaload, 1) := by decide +kernel
theorem dL_law_1044 : decode cL_law 1044 = .ok (.aload_n 0, 1) := by decide +kernel
theorem dL_law_1045 : decode cL_law 1045 = .ok (.iload_n 3, 1) := by decide +kernel
theorem dL_law_1046 : decode cL_law 1046 = .ok (.iconst 2, 1) := by decide +kernel
theorem dL_law_1047 : decode cL_law 1047 = .ok (.iadd, 1) := by decide +kernel
theorem dL_law_1048 : decode cL_law 1048 = .ok (.iaload, 1) := by decide +kernel
theorem dL_law_1049 : decode cL_law 1049 = .ok (.invokevirtual 141, 3) := by decide +kernel
theorem dL_law_1052 : decode cL_law 1052 = .ok (.aload_n 2, 1) := by decide +kernel
theorem dL_law_1053 : decode cL_law 1053 = .ok (.aload_n 0, 1) := by decide +kernel
theorem dL_law_1054 : decode cL_law 1054 = .ok (.iload_n 3, 1) := by decide +kernel
theorem dL_law_1055 : decode cL_law 1055 = .ok (.iconst 1, 1) := by decide +kernel
theorem dL_law_1056 : decode cL_law 1056 = .ok (.iadd, 1) := by decide +kernel
theorem dL_law_1057 : decode cL_law 1057 = .ok (.iaload, 1) := by decide +kernel
theorem dL_law_1058 : decode cL_law 1058 = .ok (.aload_n 0, 1) := by decide +kernel
theorem dL_law_1059 : decode cL_law 1059 = .ok (.iload_n 3, 1) := by decide +kernel
theorem dL_law_1060 : decode cL_law 1060 = .ok (.iconst 2, 1) := by decide +kernel
theorem dL_law_1061 : decode cL_law 1061 = .ok (.iadd, 1) := by decide +kernel
theorem dL_law_1062 : decode cL_law 1062 = .ok (.iaload, 1) := by decide +kernel
theorem dL_law_1063 : decode cL_law 1063 = .ok (.invokevirtual 144, 3) := by decide +kernel
theorem dL_law_1066 : decode cL_law 1066 = .ok (.if_icmp .eq 77, 3) := by decide +kernel
theorem dL_law_1069 : decode cL_law 1069 = .ok (.iconst 0, 1) := by decide +kernel
theorem dL_law_1070 : decode cL_law 1070 = .ok (.ireturn, 1) := by decide +kernel
theorem dL_law_1071 : decode cL_law 1071 = .ok (.aload_n 1, 1) := by decide +kernel
theorem dL_law_1072 : decode cL_law 1072 = .ok (.invokevirtual 145, 3) := by decide +kernel
theorem dL_law_1075 : decode cL_law 1075 = .ok (.aload_n 2, 1) := by decide +kernel
theorem dL_law_1076 : decode cL_law 1076 = .ok (.invokevirtual 148, 3) := by decide +kernel
theorem dL_law_1079 : decode cL_law 1079 = .ok (.if_icmp .eq 64, 3) := by decide +kernel
theorem dL_law_1082 : decode cL_law 1082 = .ok (.iconst 0, 1) := by decide +kernel
theorem dL_law_1083 : decode cL_law 1083 = .ok (.ireturn, 1) := by decide +kernel
theorem dL_law_1084 : decode cL_law 1084 = .ok (.aload_n 1, 1) := by decide +kernel
theorem dL_law_1085 : decode cL_law 1085 = .ok (.invokevirtual 149, 3) := by decide +kernel
theorem dL_law_1088 : decode cL_law 1088 = .ok (.aload_n 2, 1) := by decide +kernel
theorem dL_law_1089 : decode cL_law 1089 = .ok (.invokevirtual 152, 3) := by decide +kernel
theorem dL_law_1092 : decode cL_law 1092 = .ok (.if_icmp .eq 51, 3) := by decide +kernel
theorem dL_law_1095 : decode cL_law 1095 = .ok (.iconst 0, 1) := by decide +kernel
theorem dL_law_1096 : decode cL_law 1096 = .ok (.ireturn, 1) := by decide +kernel
theorem dL_law_1097 : decode cL_law 1097 = .ok (.aload_n 1, 1) := by decide +kernel
theorem dL_law_1098 : decode cL_law 1098 = .ok (.aload_n 0, 1) := by decide +kernel
theorem dL_law_1099 : decode cL_law 1099 = .ok (.iload_n 3, 1) := by decide +kernel
theorem dL_law_1100 : decode cL_law 1100 = .ok (.iconst 1, 1) := by decide +kernel
theorem dL_law_1101 : decode cL_law 1101 = .ok (.iadd, 1) := by decide +kernel
theorem dL_law_1102 : decode cL_law 1102 = .ok (.iaload, 1) := by decide +kernel
theorem dL_law_1103 : decode cL_law 1103 = .ok (.invokevirtual 153, 3) := by decide +kernel
theorem dL_law_1106 : decode cL_law 1106 = .ok (.aload_n 2, 1) := by decide +kernel
theorem dL_law_1107 : decode cL_law 1107 = .ok (.aload_n 0, 1) := by decide +kernel
theorem dL_law_1108 : decode cL_law 1108 = .ok (.iload_n 3, 1) := by decide +kernel
theorem dL_law_1109 : decode cL_law 1109 = .ok (.iconst 1, 1) := by decide +kernel
theorem dL_law_1110 : decode cL_law 1110 = .ok (.iadd, 1) := by decide +kernel
theorem dL_law_1111 : decode cL_law 1111 = .ok (.iaload, 1) := by decide +kernel
theorem dL_law_1112 : decode cL_law 1112 = .ok (.invokevirtual 156, 3) := by decide +kernel
theorem dL_law_1115 : decode cL_law 1115 = .ok (.if_icmp .eq 28, 3) := by decide +kernel
theorem dL_law_1118 : decode cL_law 1118 = .ok (.iconst 0, 1) := by decide +kernel
theorem dL_law_1119 : decode cL_law 1119 = .ok (.ireturn, 1) := by decide +kernel
theorem dL_law_1120 : decode cL_law 1120 = .ok (.aload_n 1, 1) := by decide +kernel
theorem dL_law_1121 : decode cL_law 1121 = .ok (.aload_n 0, 1) := by decide +kernel
theorem dL_law_1122 : decode cL_law 1122 = .ok (.iload_n 3, 1) := by decide +kernel
theorem dL_law_1123 : decode cL_law 1123 = .ok (.iconst 1, 1) := by decide +kernel
theorem dL_law_1124 : decode cL_law 1124 = .ok (.iadd, 1) := by decide +kernel
theorem dL_law_1125 : decode cL_law 1125 = .ok (.iaload, 1) := by decide +kernel
theorem dL_law_1126 : decode cL_law 1126 = .ok (.invokevirtual 157, 3) := by decide +kernel
theorem dL_law_1129 : decode cL_law 1129 = .ok (.aload_n 2, 1) := by decide +kernel
theorem dL_law_1130 : decode cL_law 1130 = .ok (.aload_n 0, 1) := by decide +kernel
theorem dL_law_1131 : decode cL_law 1131 = .ok (.iload_n 3, 1) := by decide +kernel
theorem dL_law_1132 : decode cL_law 1132 = .ok (.iconst 1, 1) := by decide +kernel
theorem dL_law_1133 : decode cL_law 1133 = .ok (.iadd, 1) := by decide +kernel
theorem dL_law_1134 : decode cL_law 1134 = .ok (.iaload, 1) := by decide +kernel
theorem dL_law_1135 : decode cL_law 1135 = .ok (.invokevirtual 160, 3) := by decide +kernel
theorem dL_law_1138 : decode cL_law 1138 = .ok (.if_icmp .eq 5, 3) := by decide +kernel
theorem dL_law_1141 : decode cL_law 1141 = .ok (.iconst 0, 1) := by decide +kernel
theorem dL_law_1142 : decode cL_law 1142 = .ok (.ireturn, 1) := by decide +kernel
theorem dL_law_1143 : decode cL_law 1143 = .ok (.iinc 3 5, 3) := by decide +kernel
theorem dL_law_1146 : decode cL_law 1146 = .ok (.goto (-1128), 3) := by decide +kernel
theorem dL_law_1149 : decode cL_law 1149 = .ok (.iconst 1, 1) := by decide +kernel
theorem dL_law_1150 : decode cL_law 1150 = .ok (.ireturn, 1) := by decide +kernel

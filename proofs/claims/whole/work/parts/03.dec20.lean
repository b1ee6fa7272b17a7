theorem dX6_chance_143 : decode cX6_chance 143 = .ok (.lload 4, 2) := by decide +kernel
theorem dX6_chance_145 : decode cX6_chance 145 = .ok (.lload 8, 2) := by decide +kernel
theorem dX6_chance_147 : decode cX6_chance 147 = .ok (.ldiv, 1) := by decide +kernel
theorem dX6_chance_148 : decode cX6_chance 148 = .ok (.goto 8, 3) := by decide +kernel
theorem dX6_chance_151 : decode cX6_chance 151 = .ok (.lload 6, 2) := by decide +kernel
theorem dX6_chance_153 : decode cX6_chance 153 = .ok (.lload 8, 2) := by decide +kernel
theorem dX6_chance_155 : decode cX6_chance 155 = .ok (.ldiv, 1) := by decide +kernel
theorem dX6_chance_156 : decode cX6_chance 156 = .ok (.lreturn, 1) := by decide +kernel
set_option maxRecDepth 20000 in
theorem ggX6_meter_X2_add : GoodIn wsX6_meter wsX2_add := goodIn_r _ [6, 7, 8, 9, 18, 19, 20] (by decide +kernel) (by decide +kernel)
set_option maxRecDepth 20000 in
theorem gX6_meter_X2_add : GoodIn wsX6_meter (wsV RX6 250 RX2 yX2_add wsX2_add) := goodIn_app (goodIn_of _ (by decide +kernel)) ggX6_meter_X2_add
theorem dX6_meter_0 : decode cX6_meter 0 = .ok (.iload_n 1, 1) := by decide +kernel
theorem dX6_meter_1 : decode cX6_meter 1 = .ok (.ifCond .lt 20, 3) := by decide +kernel
theorem dX6_meter_4 : decode cX6_meter 4 = .ok (.iload_n 1, 1) := by decide +kernel
theorem dX6_meter_5 : decode cX6_meter 5 = .ok (.bipush 40, 2) := by decide +kernel
theorem dX6_meter_7 : decode cX6_meter 7 = .ok (.if_icmp .gt 14, 3) := by decide +kernel
theorem dX6_meter_10 : decode cX6_meter 10 = .ok (.iload_n 2, 1) := by decide +kernel
theorem dX6_meter_11 : decode cX6_meter 11 = .ok (.ifCond .lt 10, 3) := by decide +kernel
theorem dX6_meter_14 : decode cX6_meter 14 = .ok (.iload_n 2, 1) := by decide +kernel
theorem dX6_meter_15 : decode cX6_meter 15 = .ok (.sipush 9999, 3) := by decide +kernel
theorem dX6_meter_18 : decode cX6_meter 18 = .ok (.if_icmp .le 6, 3) := by decide +kernel
theorem dX6_meter_21 : decode cX6_meter 21 = .ok (.bipush (-2), 2) := by decide +kernel
theorem dX6_meter_23 : decode cX6_meter 23 = .ok (.ireturn, 1) := by decide +kernel
theorem dX6_meter_24 : decode cX6_meter 24 = .ok (.aload_n 0, 1) := by decide +kernel
theorem dX6_meter_25 : decode cX6_meter 25 = .ok (.getfield 46, 3) := by decide +kernel
theorem dX6_meter_28 : decode cX6_meter 28 = .ok (.iload_n 1, 1) := by decide +kernel
theorem dX6_meter_29 : decode cX6_meter 29 = .ok (.iload_n 2, 1) := by decide +kernel
theorem dX6_meter_30 : decode cX6_meter 30 = .ok (.invokevirtual 250, 3) := by decide +kernel
theorem dX6_meter_33 : decode cX6_meter 33 = .ok (.ireturn, 1) := by decide +kernel
set_option maxRecDepth 20000 in
theorem ggX6_unmeter_X2_clear : GoodIn wsX6_unmeter wsX2_clear := goodIn_r _ [6, 7, 16, 17, 18] (by decide +kernel) (by decide +kernel)
set_option maxRecDepth 20000 in
theorem gX6_unmeter_X2_clear : GoodIn wsX6_unmeter (wsV RX6 252 RX2 yX2_clear wsX2_clear) := goodIn_app (goodIn_of _ (by decide +kernel)) ggX6_unmeter_X2_clear
theorem dX6_unmeter_0 : decode cX6_unmeter 0 = .ok (.aload_n 0, 1) := by decide +kernel
theorem dX6_unmeter_1 : decode cX6_unmeter 1 = .ok (.getfield 46, 3) := by decide +kernel
theorem dX6_unmeter_4 : decode cX6_unmeter 4 = .ok (.invokevirtual 252, 3) := by decide +kernel
theorem dX6_unmeter_7 : decode cX6_unmeter 7 = .ok (.ireturn, 1) := by decide +kernel
set_option maxRecDepth 20000 in
theorem ggX6_came_X6_tryFirst : GoodIn wsX6_came wsX6_tryFirst := goodIn_r _ [6, 7, 1, 8, 9, 10, 11, 12, 13, 14, 15, 16, 17, 18, 19, 20, 21, 22, 23, 24, 25, 26, 27, 28, 29, 30, 31, 32, 33, 34, 112, 113, 114, 115, 116, 117, 118, 119, 120, 121, 122, 123, 124, 125, 126, 127, 128, 129, 130, 131] (by decide +kernel) (by decide +kernel)
set_option maxRecDepth 20000 in
theorem gX6_came_X6_tryFirst : GoodIn wsX6_came (wsV RX6 191 RX6 yX6_tryFirst wsX6_tryFirst) := goodIn_app (goodIn_of _ (by decide +kernel)) ggX6_came_X6_tryFirst
set_option maxRecDepth 20000 in
theorem ggX6_came_X6_trialFitsMeters : GoodIn wsX6_came wsX6_trialFitsMeters := goodIn_r _ [38, 39, 7, 40, 41, 42, 15, 43, 17, 44, 45, 10, 46, 47, 48, 49, 50, 23, 51, 52, 53, 54, 26, 30, 27, 55, 56, 57, 58, 29, 59, 60, 61, 62, 63, 64, 65, 66, 67, 68, 69, 70, 71, 72, 73, 74, 25, 75, 76, 77, 78, 79, 80, 81, 82, 83, 84, 85, 5, 86, 87, 88, 89, 90, 24, 91, 9, 11, 92, 93, 94, 95, 96, 97, 98, 99, 100, 101, 102, 103, 28, 104, 105, 106, 107, 18, 108, 109, 110, 111, 112, 113, 114, 115, 116, 117, 118, 119, 120, 121, 122, 123, 124, 125, 126, 127, 128, 129, 130, 131, 132, 133, 134] (by decide +kernel) (by decide +kernel)
set_option maxRecDepth 20000 in
theorem gX6_came_X6_trialFitsMeters : GoodIn wsX6_came (wsV RX6 253 RX6 yX6_trialFitsMeters wsX6_trialFitsMeters) := goodIn_app (goodIn_of _ (by decide +kernel)) ggX6_came_X6_trialFitsMeters
theorem dX6_came_0 : decode cX6_came 0 = .ok (.iconst 0, 1) := by decide +kernel
theorem dX6_came_1 : decode cX6_came 1 = .ok (.istore_n 1, 1) := by decide +kernel
theorem dX6_came_2 : decode cX6_came 2 = .ok (.iconst 0, 1) := by decide +kernel
theorem dX6_came_3 : decode cX6_came 3 = .ok (.istore_n 2, 1) := by decide +kernel
theorem dX6_came_4 : decode cX6_came 4 = .ok (.iload_n 2, 1) := by decide +kernel
theorem dX6_came_5 : decode cX6_came 5 = .ok (.aload_n 0, 1) := by decide +kernel
theorem dX6_came_6 : decode cX6_came 6 = .ok (.getfield 19, 3) := by decide +kernel
theorem dX6_came_9 : decode cX6_came 9 = .ok (.getfield 79, 3) := by decide +kernel
theorem dX6_came_12 : decode cX6_came 12 = .ok (.if_icmp .gt 27, 3) := by decide +kernel
theorem dX6_came_15 : decode cX6_came 15 = .ok (.aload_n 0, 1) := by decide +kernel
theorem dX6_came_16 : decode cX6_came 16 = .ok (.iload_n 2, 1) := by decide +kernel
theorem dX6_came_17 : decode cX6_came 17 = .ok (.invokevirtual 191, 3) := by decide +kernel
theorem dX6_came_20 : decode cX6_came 20 = .ok (.aload_n 0, 1) := by decide +kernel
theorem dX6_came_21 : decode cX6_came 21 = .ok (.invokevirtual 253, 3) := by decide +kernel
theorem dX6_came_24 : decode cX6_came 24 = .ok (.ifCond .eq 9, 3) := by decide +kernel
theorem dX6_came_27 : decode cX6_came 27 = .ok (.iload_n 1, 1) := by decide +kernel
theorem dX6_came_28 : decode cX6_came 28 = .ok (.iconst 1, 1) := by decide +kernel
theorem dX6_came_29 : decode cX6_came 29 = .ok (.iload_n 2, 1) := by decide +kernel
theorem dX6_came_30 : decode cX6_came 30 = .ok (.ishl, 1) := by decide +kernel
theorem dX6_came_31 : decode cX6_came 31 = .ok (.ior, 1) := by decide +kernel
theorem dX6_came_32 : decode cX6_came 32 = .ok (.istore_n 1, 1) := by decide +kernel
theorem dX6_came_33 : decode cX6_came 33 = .ok (.iinc 2 1, 3) := by decide +kernel
theorem dX6_came_36 : decode cX6_came 36 = .ok (.goto (-32), 3) := by decide +kernel
theorem dX6_came_39 : decode cX6_came 39 = .ok (.iload_n 1, 1) := by decide +kernel
theorem dX6_came_40 : decode cX6_came 40 = .ok (.ireturn, 1) := by decide +kernel
set_option maxRecDepth 20000 in
theorem ggX6_keep_X3_put : GoodIn wsX6_keep wsX3_put := goodIn_r _ [7, 8, 9, 10, 11, 12, 13, 14, 15, 16, 17, 18, 19, 20, 21, 22, 23, 24, 25, 26, 27, 28, 49, 50, 37, 38, 39, 40, 41, 42, 43, 44, 45, 46, 47, 48] (by decide +kernel) (by decide +kernel)
set_option maxRecDepth 20000 in
theorem gX6_keep_X3_put : GoodIn wsX6_keep (wsV RX6 256 RX3 yX3_put wsX3_put) := goodIn_app (goodIn_of _ (by decide +kernel)) ggX6_keep_X3_put
theorem dX6_keep_0 : decode cX6_keep 0 = .ok (.iload_n 1, 1) := by decide +kernel
theorem dX6_keep_1 : decode cX6_keep 1 = .ok (.ifCond .lt 8, 3) := by decide +kernel
theorem dX6_keep_4 : decode cX6_keep 4 = .ok (.iload_n 1, 1) := by decide +kernel
theorem dX6_keep_5 : decode cX6_keep 5 = .ok (.iconst 2, 1) := by decide +kernel
theorem dX6_keep_6 : decode cX6_keep 6 = .ok (.if_icmp .lt 5, 3) := by decide +kernel
theorem dX6_keep_9 : decode cX6_keep 9 = .ok (.iconst (-1), 1) := by decide +kernel
theorem dX6_keep_10 : decode cX6_keep 10 = .ok (.ireturn, 1) := by decide +kernel
theorem dX6_keep_11 : decode cX6_keep 11 = .ok (.aload_n 0, 1) := by decide +kernel
theorem dX6_keep_12 : decode cX6_keep 12 = .ok (.getfield 53, 3) := by decide +kernel
theorem dX6_keep_15 : decode cX6_keep 15 = .ok (.iload_n 1, 1) := by decide +kernel
theorem dX6_keep_16 : decode cX6_keep 16 = .ok (.aload_n 0, 1) := by decide +kernel
theorem dX6_keep_17 : decode cX6_keep 17 = .ok (.getfield 19, 3) := by decide +kernel
theorem dX6_keep_20 : decode cX6_keep 20 = .ok (.invokevirtual 256, 3) := by decide +kernel
theorem dX6_keep_23 : decode cX6_keep 23 = .ok (.aload_n 0, 1) := by decide +kernel
theorem dX6_keep_24 : decode cX6_keep 24 = .ok (.getfield 19, 3) := by decide +kernel
theorem dX6_keep_27 : decode cX6_keep 27 = .ok (.getfield 79, 3) := by decide +kernel
theorem dX6_keep_30 : decode cX6_keep 30 = .ok (.ireturn, 1) := by decide +kernel
set_option maxRecDepth 20000 in
theorem ggX6_again_X3_isKept : GoodIn wsX6_again wsX3_isKept := goodIn_r _ [8, 9, 60, 61] (by decide +kernel) (by decide +kernel)
set_option maxRecDepth 20000 in
theorem gX6_again_X3_isKept : GoodIn wsX6_again (wsV RX6 260 RX3 yX3_isKept wsX3_isKept) := goodIn_app (goodIn_of _ (by decide +kernel)) ggX6_again_X3_isKept
set_option maxRecDepth 20000 in
theorem ggX6_again_X3_at : GoodIn wsX6_again wsX3_at := goodIn_r _ [13, 14, 60, 61] (by decide +kernel) (by decide +kernel)
set_option maxRecDepth 20000 in
theorem gX6_again_X3_at : GoodIn wsX6_again (wsV RX6 263 RX3 yX3_at wsX3_at) := goodIn_app (goodIn_of _ (by decide +kernel)) ggX6_again_X3_at
set_option maxRecDepth 20000 in
theorem ggX6_again_X1_copyFrom : GoodIn wsX6_again wsX1_copyFrom := goodIn_r _ [19, 20, 21, 22, 23, 24, 18, 25, 26, 27, 28, 29, 30, 31, 32, 33, 48, 49, 50, 51, 52, 53, 54, 55, 56, 57, 58, 59] (by decide +kernel) (by decide +kernel)
set_option maxRecDepth 20000 in
theorem gX6_again_X1_copyFrom : GoodIn wsX6_again (wsV RX6 69 RX1 yX1_copyFrom wsX1_copyFrom) := goodIn_app (goodIn_of _ (by decide +kernel)) ggX6_again_X1_copyFrom
set_option maxRecDepth 20000 in
theorem ggX6_again_X0_clear : GoodIn wsX6_again wsX0_clear := goodIn_r _ [38, 39, 62, 63] (by decide +kernel) (by decide +kernel)
set_option maxRecDepth 20000 in
theorem gX6_again_X0_clear : GoodIn wsX6_again (wsV RX6 76 RX0 yX0_clear wsX0_clear) := goodIn_app (goodIn_of _ (by decide +kernel)) ggX6_again_X0_clear
theorem dX6_again_0 : decode cX6_again 0 = .ok (.iload_n 1, 1) := by decide +kernel
theorem dX6_again_1 : decode cX6_again 1 = .ok (.ifCond .lt 8, 3) := by decide +kernel
theorem dX6_again_4 : decode cX6_again 4 = .ok (.iload_n 1, 1) := by decide +kernel
theorem dX6_again_5 : decode cX6_again 5 = .ok (.iconst 2, 1) := by decide +kernel
theorem dX6_again_6 : decode cX6_again 6 = .ok (.if_icmp .lt 5, 3) := by decide +kernel
theorem dX6_again_9 : decode cX6_again 9 = .ok (.iconst (-1), 1) := by decide +kernel
theorem dX6_again_10 : decode cX6_again 10 = .ok (.ireturn, 1) := by decide +kernel
theorem dX6_again_11 : decode cX6_again 11 = .ok (.aload_n 0, 1) := by decide +kernel
theorem dX6_again_12 : decode cX6_again 12 = .ok (.getfield 53, 3) := by decide +kernel
theorem dX6_again_15 : decode cX6_again 15 = .ok (.iload_n 1, 1) := by decide +kernel
theorem dX6_again_16 : decode cX6_again 16 = .ok (.invokevirtual 260, 3) := by decide +kernel
theorem dX6_again_19 : decode cX6_again 19 = .ok (.ifCond .ne 6, 3) := by decide +kernel
theorem dX6_again_22 : decode cX6_again 22 = .ok (.bipush (-3), 2) := by decide +kernel
theorem dX6_again_24 : decode cX6_again 24 = .ok (.ireturn, 1) := by decide +kernel
theorem dX6_again_25 : decode cX6_again 25 = .ok (.aload_n 0, 1) := by decide +kernel
theorem dX6_again_26 : decode cX6_again 26 = .ok (.getfield 19, 3) := by decide +kernel
theorem dX6_again_29 : decode cX6_again 29 = .ok (.aload_n 0, 1) := by decide +kernel
theorem dX6_again_30 : decode cX6_again 30 = .ok (.getfield 53, 3) := by decide +kernel
theorem dX6_again_33 : decode cX6_again 33 = .ok (.iload_n 1, 1) := by decide +kernel
theorem dX6_again_34 : decode cX6_again 34 = .ok (.invokevirtual 263, 3) := by decide +kernel
theorem dX6_again_37 : decode cX6_again 37 = .ok (.invokevirtual 69, 3) := by decide +kernel
theorem dX6_again_40 : decode cX6_again 40 = .ok (.aload_n 0, 1) := by decide +kernel
theorem dX6_again_41 : decode cX6_again 41 = .ok (.getfield 39, 3) := by decide +kernel
theorem dX6_again_44 : decode cX6_again 44 = .ok (.invokevirtual 76, 3) := by decide +kernel
theorem dX6_again_47 : decode cX6_again 47 = .ok (.aload_n 0, 1) := by decide +kernel
theorem dX6_again_48 : decode cX6_again 48 = .ok (.getfield 19, 3) := by decide +kernel
theorem dX6_again_51 : decode cX6_again 51 = .ok (.getfield 79, 3) := by decide +kernel
theorem dX6_again_54 : decode cX6_again 54 = .ok (.ireturn, 1) := by decide +kernel
theorem dX6_isCell_0 : decode cX6_isCell 0 = .ok (.iload_n 0, 1) := by decide +kernel
theorem dX6_isCell_1 : decode cX6_isCell 1 = .ok (.ifCond .lt 23, 3) := by decide +kernel
theorem dX6_isCell_4 : decode cX6_isCell 4 = .ok (.iload_n 0, 1) := by decide +kernel
theorem dX6_isCell_5 : decode cX6_isCell 5 = .ok (.bipush 10, 2) := by decide +kernel
theorem dX6_isCell_7 : decode cX6_isCell 7 = .ok (.if_icmp .ge 17, 3) := by decide +kernel
theorem dX6_isCell_10 : decode cX6_isCell 10 = .ok (.iload_n 1, 1) := by decide +kernel
theorem dX6_isCell_11 : decode cX6_isCell 11 = .ok (.ifCond .lt 13, 3) := by decide +kernel
theorem dX6_isCell_14 : decode cX6_isCell 14 = .ok (.iload_n 1, 1) := by decide +kernel
theorem dX6_isCell_15 : decode cX6_isCell 15 = .ok (.bipush 10, 2) := by decide +kernel
theorem dX6_isCell_17 : decode cX6_isCell 17 = .ok (.if_icmp .ge 7, 3) := by decide +kernel
theorem dX6_isCell_20 : decode cX6_isCell 20 = .ok (.iconst 1, 1) := by decide +kernel
theorem dX6_isCell_21 : decode cX6_isCell 21 = .ok (.goto 4, 3) := by decide +kernel
theorem dX6_isCell_24 : decode cX6_isCell 24 = .ok (.iconst 0, 1) := by decide +kernel
theorem dX6_isCell_25 : decode cX6_isCell 25 = .ok (.ireturn, 1) := by decide +kernel
theorem dX6_squareApart_0 : decode cX6_squareApart 0 = .ok (.iload_n 0, 1) := by decide +kernel
theorem dX6_squareApart_1 : decode cX6_squareApart 1 = .ok (.bipush 10, 2) := by decide +kernel
theorem dX6_squareApart_3 : decode cX6_squareApart 3 = .ok (.irem, 1) := by decide +kernel
theorem dX6_squareApart_4 : decode cX6_squareApart 4 = .ok (.iload_n 1, 1) := by decide +kernel
theorem dX6_squareApart_5 : decode cX6_squareApart 5 = .ok (.bipush 10, 2) := by decide +kernel
theorem dX6_squareApart_7 : decode cX6_squareApart 7 = .ok (.irem, 1) := by decide +kernel
theorem dX6_squareApart_8 : decode cX6_squareApart 8 = .ok (.isub, 1) := by decide +kernel
theorem dX6_squareApart_9 : decode cX6_squareApart 9 = .ok (.istore_n 2, 1) := by decide +kernel
theorem dX6_squareApart_10 : decode cX6_squareApart 10 = .ok (.iload_n 0, 1) := by decide +kernel
theorem dX6_squareApart_11 : decode cX6_squareApart 11 = .ok (.bipush 10, 2) := by decide +kernel
theorem dX6_squareApart_13 : decode cX6_squareApart 13 = .ok (.idiv, 1) := by decide +kernel
theorem dX6_squareApart_14 : decode cX6_squareApart 14 = .ok (.iload_n 1, 1) := by decide +kernel
theorem dX6_squareApart_15 : decode cX6_squareApart 15 = .ok (.bipush 10, 2) := by decide +kernel
theorem dX6_squareApart_17 : decode cX6_squareApart 17 = .ok (.idiv, 1) := by decide +kernel
theorem dX6_squareApart_18 : decode cX6_squareApart 18 = .ok (.isub, 1) := by decide +kernel
theorem dX6_squareApart_19 : decode cX6_squareApart 19 = .ok (.istore_n 3, 1) := by decide +kernel
theorem dX6_squareApart_20 : decode cX6_squareApart 20 = .ok (.iload_n 2, 1) := by decide +kernel
theorem dX6_squareApart_21 : decode cX6_squareApart 21 = .ok (.iload_n 2, 1) := by decide +kernel
theorem dX6_squareApart_22 : decode cX6_squareApart 22 = .ok (.imul, 1) := by decide +kernel
theorem dX6_squareApart_23 : decode cX6_squareApart 23 = .ok (.iload_n 3, 1) := by decide +kernel
theorem dX6_squareApart_24 : decode cX6_squareApart 24 = .ok (.iload_n 3, 1) := by decide +kernel
theorem dX6_squareApart_25 : decode cX6_squareApart 25 = .ok (.imul, 1) := by decide +kernel
theorem dX6_squareApart_26 : decode cX6_squareApart 26 = .ok (.iadd, 1) := by decide +kernel
theorem dX6_squareApart_27 : decode cX6_squareApart 27 = .ok (.ireturn, 1) := by decide +kernel
set_option maxRecDepth 20000 in
theorem ggX6_tryFirst_X1_copyFrom : GoodIn wsX6_tryFirst wsX1_copyFrom := goodIn_r _ [11, 12, 13, 14, 15, 16, 10, 17, 18, 19, 20, 21, 22, 23, 24, 25, 38, 39, 40, 41, 42, 43, 44, 45, 46, 47, 48, 49] (by decide +kernel) (by decide +kernel)
set_option maxRecDepth 20000 in
theorem gX6_tryFirst_X1_copyFrom : GoodIn wsX6_tryFirst (wsV RX6 69 RX1 yX1_copyFrom wsX1_copyFrom) := goodIn_app (goodIn_of _ (by decide +kernel)) ggX6_tryFirst_X1_copyFrom
set_option maxRecDepth 20000 in
theorem ggX6_tryFirst_X1_speakAll : GoodIn wsX6_tryFirst wsX1_speakAll := goodIn_r _ [29, 18, 22, 38, 39, 40, 41, 42, 43, 44, 45, 46, 47, 48, 49] (by decide +kernel) (by decide +kernel)
set_option maxRecDepth 20000 in
theorem gX6_tryFirst_X1_speakAll : GoodIn wsX6_tryFirst (wsV RX6 182 RX1 yX1_speakAll wsX1_speakAll) := goodIn_app (goodIn_of _ (by decide +kernel)) ggX6_tryFirst_X1_speakAll
theorem dX6_tryFirst_0 : decode cX6_tryFirst 0 = .ok (.aload_n 0, 1) := by decide +kernel
theorem dX6_tryFirst_1 : decode cX6_tryFirst 1 = .ok (.getfield 23, 3) := by decide +kernel
theorem dX6_tryFirst_4 : decode cX6_tryFirst 4 = .ok (.aload_n 0, 1) := by decide +kernel
theorem dX6_tryFirst_5 : decode cX6_tryFirst 5 = .ok (.getfield 19, 3) := by decide +kernel
theorem dX6_tryFirst_8 : decode cX6_tryFirst 8 = .ok (.invokevirtual 69, 3) := by decide +kernel
theorem dX6_tryFirst_11 : decode cX6_tryFirst 11 = .ok (.aload_n 0, 1) := by decide +kernel
theorem dX6_tryFirst_12 : decode cX6_tryFirst 12 = .ok (.getfield 23, 3) := by decide +kernel
theorem dX6_tryFirst_15 : decode cX6_tryFirst 15 = .ok (.iload_n 1, 1) := by decide +kernel
theorem dX6_tryFirst_16 : decode cX6_tryFirst 16 = .ok (.aload_n 0, 1) := by decide +kernel
theorem dX6_tryFirst_17 : decode cX6_tryFirst 17 = .ok (.getfield 19, 3) := by decide +kernel
theorem dX6_tryFirst_20 : decode cX6_tryFirst 20 = .ok (.getfield 79, 3) := by decide +kernel
theorem dX6_tryFirst_23 : decode cX6_tryFirst 23 = .ok (.invokestatic 204, 3) := by decide +kernel
theorem dX6_tryFirst_26 : decode cX6_tryFirst 26 = .ok (.putfield 79, 3) := by decide +kernel
theorem dX6_tryFirst_29 : decode cX6_tryFirst 29 = .ok (.aload_n 0, 1) := by decide +kernel
theorem dX6_tryFirst_30 : decode cX6_tryFirst 30 = .ok (.getfield 23, 3) := by decide +kernel
theorem dX6_tryFirst_33 : decode cX6_tryFirst 33 = .ok (.iconst 1, 1) := by decide +kernel
theorem dX6_tryFirst_34 : decode cX6_tryFirst 34 = .ok (.invokevirtual 182, 3) := by decide +kernel
theorem dX6_tryFirst_37 : decode cX6_tryFirst 37 = .ok (.pop, 1) := by decide +kernel
theorem dX6_tryFirst_38 : decode cX6_tryFirst 38 = .ok (.return_, 1) := by decide +kernel
set_option maxRecDepth 20000 in
theorem ggX6_trialFitsMeters_X1_echoing : GoodIn wsX6_trialFitsMeters wsX1_echoing := goodIn_r _ [7, 8, 9, 10, 11, 12, 13, 14, 15, 6, 16, 17, 18, 19, 20, 21, 22, 23, 24, 25, 26, 27, 28, 29, 98, 99, 100, 101, 102, 103, 104, 105, 106, 107, 108, 109] (by decide +kernel) (by decide +kernel)
set_option maxRecDepth 20000 in
theorem gX6_trialFitsMeters_X1_echoing : GoodIn wsX6_trialFitsMeters (wsV RX6 92 RX1 yX1_echoing wsX1_echoing) := goodIn_app (goodIn_of _ (by decide +kernel)) ggX6_trialFitsMeters_X1_echoing
set_option maxRecDepth 20000 in
theorem ggX6_trialFitsMeters_X2_fit : GoodIn wsX6_trialFitsMeters wsX2_fit := goodIn_r _ [34, 35, 36, 37, 38, 39, 11, 40, 110, 111, 112] (by decide +kernel) (by decide +kernel)
set_option maxRecDepth 20000 in
theorem gX6_trialFitsMeters_X2_fit : GoodIn wsX6_trialFitsMeters (wsV RX6 267 RX2 yX2_fit wsX2_fit) := goodIn_app (goodIn_of _ (by decide +kernel)) ggX6_trialFitsMeters_X2_fit
set_option maxRecDepth 20000 in
theorem ggX6_trialFitsMeters_X1_look : GoodIn wsX6_trialFitsMeters wsX1_look := goodIn_r _ [44, 17, 45, 46, 47, 48, 4, 5, 6, 7, 8, 9, 10, 11, 12, 13, 14, 15, 16, 18, 19, 20, 21, 22, 23, 24, 25, 26, 27, 28, 29, 49, 50, 51, 52, 53, 54, 55, 56, 57, 58, 59, 60, 61, 62, 63, 64, 65, 66, 67, 68, 69, 70, 71, 72, 73, 74, 75, 76, 77, 78, 79, 80, 81, 82, 83, 84, 85, 98, 99, 100, 101, 102, 103, 104, 105, 106, 107, 108, 109] (by decide +kernel) (by decide +kernel)
set_option maxRecDepth 20000 in
theorem gX6_trialFitsMeters_X1_look : GoodIn wsX6_trialFitsMeters (wsV RX6 163 RX1 yX1_look wsX1_look) := goodIn_app (goodIn_of _ (by decide +kernel)) ggX6_trialFitsMeters_X1_look
set_option maxRecDepth 20000 in
theorem ggX6_trialFitsMeters_X1_take : GoodIn wsX6_trialFitsMeters wsX1_take := goodIn_r _ [89, 17, 24, 45, 47, 29, 98, 99, 100, 101, 102, 103, 104, 105, 106, 107, 108, 109] (by decide +kernel) (by decide +kernel)
set_option maxRecDepth 20000 in
theorem gX6_trialFitsMeters_X1_take : GoodIn wsX6_trialFitsMeters (wsV RX6 169 RX1 yX1_take wsX1_take) := goodIn_app (goodIn_of _ (by decide +kernel)) ggX6_trialFitsMeters_X1_take
theorem dX6_trialFitsMeters_0 : decode cX6_trialFitsMeters 0 = .ok (.iconst 0, 1) := by decide +kernel
theorem dX6_trialFitsMeters_1 : decode cX6_trialFitsMeters 1 = .ok (.istore_n 1, 1) := by decide +kernel
theorem dX6_trialFitsMeters_2 : decode cX6_trialFitsMeters 2 = .ok (.iload_n 1, 1) := by decide +kernel
theorem dX6_trialFitsMeters_3 : decode cX6_trialFitsMeters 3 = .ok (.bipush 40, 2) := by decide +kernel
theorem dX6_trialFitsMeters_5 : decode cX6_trialFitsMeters 5 = .ok (.if_icmp .gt 43, 3) := by decide +kernel
theorem dX6_trialFitsMeters_8 : decode cX6_trialFitsMeters 8 = .ok (.aload_n 0, 1) := by decide +kernel
theorem dX6_trialFitsMeters_9 : decode cX6_trialFitsMeters 9 = .ok (.getfield 46, 3) := by decide +kernel
theorem dX6_trialFitsMeters_12 : decode cX6_trialFitsMeters 12 = .ok (.iload_n 1, 1) := by decide +kernel
theorem dX6_trialFitsMeters_13 : decode cX6_trialFitsMeters 13 = .ok (.aload_n 0, 1) := by decide +kernel
theorem dX6_trialFitsMeters_14 : decode cX6_trialFitsMeters 14 = .ok (.getfield 23, 3) := by decide +kernel
theorem dX6_trialFitsMeters_17 : decode cX6_trialFitsMeters 17 = .ok (.invokevirtual 92, 3) := by decide +kernel
theorem dX6_trialFitsMeters_20 : decode cX6_trialFitsMeters 20 = .ok (.invokevirtual 267, 3) := by decide +kernel
theorem dX6_trialFitsMeters_23 : decode cX6_trialFitsMeters 23 = .ok (.ifCond .ne 5, 3) := by decide +kernel
theorem dX6_trialFitsMeters_26 : decode cX6_trialFitsMeters 26 = .ok (.iconst 0, 1) := by decide +kernel
theorem dX6_trialFitsMeters_27 : decode cX6_trialFitsMeters 27 = .ok (.ireturn, 1) := by decide +kernel
theorem dX6_trialFitsMeters_28 : decode cX6_trialFitsMeters 28 = .ok (.aload_n 0, 1) := by decide +kernel
theorem dX6_trialFitsMeters_29 : decode cX6_trialFitsMeters 29 = .ok (.getfield 23, 3) := by decide +kernel
theorem dX6_trialFitsMeters_32 : decode cX6_trialFitsMeters 32 = .ok (.invokevirtual 163, 3) := by decide +kernel
theorem dX6_trialFitsMeters_35 : decode cX6_trialFitsMeters 35 = .ok (.aload_n 0, 1) := by decide +kernel
theorem dX6_trialFitsMeters_36 : decode cX6_trialFitsMeters 36 = .ok (.getfield 23, 3) := by decide +kernel
theorem dX6_trialFitsMeters_39 : decode cX6_trialFitsMeters 39 = .ok (.invokevirtual 169, 3) := by decide +kernel
theorem dX6_trialFitsMeters_42 : decode cX6_trialFitsMeters 42 = .ok (.iinc 1 1, 3) := by decide +kernel
theorem dX6_trialFitsMeters_45 : decode cX6_trialFitsMeters 45 = .ok (.goto (-43), 3) := by decide +kernel
theorem dX6_trialFitsMeters_48 : decode cX6_trialFitsMeters 48 = .ok (.iconst 1, 1) := by decide +kernel
theorem dX6_trialFitsMeters_49 : decode cX6_trialFitsMeters 49 = .ok (.ireturn, 1) := by decide +kernel
theorem dX6_isTables_0 : decode cX6_isTables 0 = .ok (.iload_n 0, 1) := by decide +kernel
theorem dX6_isTables_1 : decode cX6_isTables 1 = .ok (.iconst 1, 1) := by decide +kernel
theorem dX6_isTables_2 : decode cX6_isTables 2 = .ok (.if_icmp .lt 22, 3) := by decide +kernel
theorem dX6_isTables_5 : decode cX6_isTables 5 = .ok (.iload_n 0, 1) := by decide +kernel
theorem dX6_isTables_6 : decode cX6_isTables 6 = .ok (.iconst 4, 1) := by decide +kernel
theorem dX6_isTables_7 : decode cX6_isTables 7 = .ok (.if_icmp .gt 17, 3) := by decide +kernel
theorem dX6_isTables_10 : decode cX6_isTables 10 = .ok (.iload_n 1, 1) := by decide +kernel
theorem dX6_isTables_11 : decode cX6_isTables 11 = .ok (.ifCond .lt 13, 3) := by decide +kernel
theorem dX6_isTables_14 : decode cX6_isTables 14 = .ok (.iload_n 1, 1) := by decide +kernel
theorem dX6_isTables_15 : decode cX6_isTables 15 = .ok (.bipush 10, 2) := by decide +kernel
theorem dX6_isTables_17 : decode cX6_isTables 17 = .ok (.if_icmp .ge 7, 3) := by decide +kernel
theorem dX6_isTables_20 : decode cX6_isTables 20 = .ok (.iconst 1, 1) := by decide +kernel
theorem dX6_isTables_21 : decode cX6_isTables 21 = .ok (.goto 4, 3) := by decide +kernel
theorem dX6_isTables_24 : decode cX6_isTables 24 = .ok (.iconst 0, 1) := by decide +kernel
theorem dX6_isTables_25 : decode cX6_isTables 25 = .ok (.ireturn, 1) := by decide +kernel
theorem dX6_cellInLine_0 : decode cX6_cellInLine 0 = .ok (.iload_n 0, 1) := by decide +kernel
theorem dX6_cellInLine_1 : decode cX6_cellInLine 1 = .ok (.ifCond .eq 12, 3) := by decide +kernel
theorem dX6_cellInLine_4 : decode cX6_cellInLine 4 = .ok (.bipush 10, 2) := by decide +kernel
theorem dX6_cellInLine_6 : decode cX6_cellInLine 6 = .ok (.iload_n 2, 1) := by decide +kernel
theorem dX6_cellInLine_7 : decode cX6_cellInLine 7 = .ok (.imul, 1) := by decide +kernel
theorem dX6_cellInLine_8 : decode cX6_cellInLine 8 = .ok (.iload_n 1, 1) := by decide +kernel
theorem dX6_cellInLine_9 : decode cX6_cellInLine 9 = .ok (.iadd, 1) := by decide +kernel
theorem dX6_cellInLine_10 : decode cX6_cellInLine 10 = .ok (.goto 9, 3) := by decide +kernel
theorem dX6_cellInLine_13 : decode cX6_cellInLine 13 = .ok (.bipush 10, 2) := by decide +kernel
theorem dX6_cellInLine_15 : decode cX6_cellInLine 15 = .ok (.iload_n 1, 1) := by decide +kernel
theorem dX6_cellInLine_16 : decode cX6_cellInLine 16 = .ok (.imul, 1) := by decide +kernel
theorem dX6_cellInLine_17 : decode cX6_cellInLine 17 = .ok (.iload_n 2, 1) := by decide +kernel
theorem dX6_cellInLine_18 : decode cX6_cellInLine 18 = .ok (.iadd, 1) := by decide +kernel
theorem dX6_cellInLine_19 : decode cX6_cellInLine 19 = .ok (.ireturn, 1) := by decide +kernel
theorem dX6_isIn_0 : decode cX6_isIn 0 = .ok (.iload_n 0, 1) := by decide +kernel
theorem dX6_isIn_1 : decode cX6_isIn 1 = .ok (.bipush 9, 2) := by decide +kernel
theorem dX6_isIn_3 : decode cX6_isIn 3 = .ok (.iload_n 1, 1) := by decide +kernel
theorem dX6_isIn_4 : decode cX6_isIn 4 = .ok (.isub, 1) := by decide +kernel
theorem dX6_isIn_5 : decode cX6_isIn 5 = .ok (.ishr, 1) := by decide +kernel
theorem dX6_isIn_6 : decode cX6_isIn 6 = .ok (.iconst 1, 1) := by decide +kernel
theorem dX6_isIn_7 : decode cX6_isIn 7 = .ok (.iand, 1) := by decide +kernel
theorem dX6_isIn_8 : decode cX6_isIn 8 = .ok (.iconst 1, 1) := by decide +kernel
theorem dX6_isIn_9 : decode cX6_isIn 9 = .ok (.if_icmp .ne 7, 3) := by decide +kernel
theorem dX6_isIn_12 : decode cX6_isIn 12 = .ok (.iconst 1, 1) := by decide +kernel
theorem dX6_isIn_13 : decode cX6_isIn 13 = .ok (.goto 4, 3) := by decide +kernel
theorem dX6_isIn_16 : decode cX6_isIn 16 = .ok (.iconst 0, 1) := by decide +kernel
theorem dX6_isIn_17 : decode cX6_isIn 17 = .ok (.ireturn, 1) := by decide +kernel
set_option maxRecDepth 20000 in
theorem ggX6_bestTables_J6_bitCount_0f7a4 : GoodIn wsX6_bestTables wsJ6_bitCount_0f7a4 := goodIn_r _ [4, 5, 6, 7] (by decide +kernel) (by decide +kernel)
set_option maxRecDepth 20000 in
theorem gX6_bestTables_J6_bitCount_0f7a4 : GoodIn wsX6_bestTables (va_wsS RX6 270 yJ6_bitCount_0f7a4 wsJ6_bitCount_0f7a4) := goodIn_app (goodIn_of _ (by decide +kernel)) ggX6_bestTables_J6_bitCount_0f7a4
set_option maxRecDepth 20000 in
theorem ggX6_bestTables_X6_leastSquare : GoodIn wsX6_bestTables wsX6_leastSquare := goodIn_r _ [12, 13, 14, 15, 16, 17, 18, 19, 11, 20, 21, 22, 23, 24, 25, 26, 27, 28, 29, 30, 31, 32, 33, 34, 35, 36, 37, 38, 39, 40, 41, 42, 43, 44, 45, 46, 47, 48, 49, 50, 51, 52, 53] (by decide +kernel) (by decide +kernel)
set_option maxRecDepth 20000 in
theorem gX6_bestTables_X6_leastSquare : GoodIn wsX6_bestTables (wsV RX6 222 RX6 yX6_leastSquare wsX6_leastSquare) := goodIn_app (goodIn_of _ (by decide +kernel)) ggX6_bestTables_X6_leastSquare
theorem dX6_bestTables_0 : decode cX6_bestTables 0 = .ok (.iconst 0, 1) := by decide +kernel
theorem dX6_bestTables_1 : decode cX6_bestTables 1 = .ok (.istore 4, 2) := by decide +kernel
theorem dX6_bestTables_3 : decode cX6_bestTables 3 = .ok (.iconst 0, 1) := by decide +kernel
theorem dX6_bestTables_4 : decode cX6_bestTables 4 = .ok (.istore 5, 2) := by decide +kernel
theorem dX6_bestTables_6 : decode cX6_bestTables 6 = .ok (.sipush 1023, 3) := by decide +kernel
theorem dX6_bestTables_9 : decode cX6_bestTables 9 = .ok (.istore 6, 2) := by decide +kernel
theorem dX6_bestTables_11 : decode cX6_bestTables 11 = .ok (.iload 6, 2) := by decide +kernel
theorem dX6_bestTables_13 : decode cX6_bestTables 13 = .ok (.ifCond .le 43, 3) := by decide +kernel
theorem dX6_bestTables_16 : decode cX6_bestTables 16 = .ok (.iload 6, 2) := by decide +kernel
theorem dX6_bestTables_18 : decode cX6_bestTables 18 = .ok (.invokestatic 270, 3) := by decide +kernel
theorem dX6_bestTables_21 : decode cX6_bestTables 21 = .ok (.iload_n 1, 1) := by decide +kernel
theorem dX6_bestTables_22 : decode cX6_bestTables 22 = .ok (.if_icmp .ne 28, 3) := by decide +kernel
theorem dX6_bestTables_25 : decode cX6_bestTables 25 = .ok (.aload_n 0, 1) := by decide +kernel
theorem dX6_bestTables_26 : decode cX6_bestTables 26 = .ok (.iload 6, 2) := by decide +kernel
theorem dX6_bestTables_28 : decode cX6_bestTables 28 = .ok (.iload_n 2, 1) := by decide +kernel
theorem dX6_bestTables_29 : decode cX6_bestTables 29 = .ok (.iload_n 3, 1) := by decide +kernel
theorem dX6_bestTables_30 : decode cX6_bestTables 30 = .ok (.invokevirtual 222, 3) := by decide +kernel
theorem dX6_bestTables_33 : decode cX6_bestTables 33 = .ok (.istore 7, 2) := by decide +kernel
theorem dX6_bestTables_35 : decode cX6_bestTables 35 = .ok (.iload 7, 2) := by decide +kernel
theorem dX6_bestTables_37 : decode cX6_bestTables 37 = .ok (.iload 5, 2) := by decide +kernel
theorem dX6_bestTables_39 : decode cX6_bestTables 39 = .ok (.if_icmp .le 11, 3) := by decide +kernel
theorem dX6_bestTables_42 : decode cX6_bestTables 42 = .ok (.iload 6, 2) := by decide +kernel
theorem dX6_bestTables_44 : decode cX6_bestTables 44 = .ok (.istore 4, 2) := by decide +kernel
theorem dX6_bestTables_46 : decode cX6_bestTables 46 = .ok (.iload 7, 2) := by decide +kernel
theorem dX6_bestTables_48 : decode cX6_bestTables 48 = .ok (.istore 5, 2) := by decide +kernel
theorem dX6_bestTables_50 : decode cX6_bestTables 50 = .ok (.iinc 6 (-1), 3) := by decide +kernel
theorem dX6_bestTables_53 : decode cX6_bestTables 53 = .ok (.goto (-42), 3) := by decide +kernel
theorem dX6_bestTables_56 : decode cX6_bestTables 56 = .ok (.iload 4, 2) := by decide +kernel
theorem dX6_bestTables_58 : decode cX6_bestTables 58 = .ok (.ireturn, 1) := by decide +kernel
set_option maxRecDepth 20000 in
theorem ggX6_leastSquare_X6_isIn : GoodIn wsX6_leastSquare wsX6_isIn := goodIn_r _ [9] (by decide +kernel) (by decide +kernel)
set_option maxRecDepth 20000 in
theorem gX6_leastSquare_X6_isIn : GoodIn wsX6_leastSquare (va_wsS RX6 225 yX6_isIn wsX6_isIn) := goodIn_app (goodIn_of _ (by decide +kernel)) ggX6_leastSquare_X6_isIn
set_option maxRecDepth 20000 in
theorem ggX6_leastSquare_X6_cellInLine : GoodIn wsX6_leastSquare wsX6_cellInLine := goodIn_r _ [12] (by decide +kernel) (by decide +kernel)
set_option maxRecDepth 20000 in
theorem gX6_leastSquare_X6_cellInLine : GoodIn wsX6_leastSquare (va_wsS RX6 228 yX6_cellInLine wsX6_cellInLine) := goodIn_app (goodIn_of _ (by decide +kernel)) ggX6_leastSquare_X6_cellInLine
set_option maxRecDepth 20000 in
theorem ggX6_leastSquare_X1_squareToRings : GoodIn wsX6_leastSquare wsX1_squareToRings := goodIn_r _ [17, 18, 19, 20, 3, 4, 5, 21, 8, 22, 31, 32, 33, 34, 35, 36, 37, 38, 39, 40, 41, 42] (by decide +kernel) (by decide +kernel)
set_option maxRecDepth 20000 in
theorem gX6_leastSquare_X1_squareToRings : GoodIn wsX6_leastSquare (wsV RX6 275 RX1 yX1_squareToRings wsX1_squareToRings) := goodIn_app (goodIn_of _ (by decide +kernel)) ggX6_leastSquare_X1_squareToRings
theorem dX6_leastSquare_0 : decode cX6_leastSquare 0 = .ok (.sipush 1000, 3) := by decide +kernel
theorem dX6_leastSquare_3 : decode cX6_leastSquare 3 = .ok (.istore 4, 2) := by decide +kernel
theorem dX6_leastSquare_5 : decode cX6_leastSquare 5 = .ok (.iconst 0, 1) := by decide +kernel
theorem dX6_leastSquare_6 : decode cX6_leastSquare 6 = .ok (.istore 5, 2) := by decide +kernel
theorem dX6_leastSquare_8 : decode cX6_leastSquare 8 = .ok (.iload 5, 2) := by decide +kernel
theorem dX6_leastSquare_10 : decode cX6_leastSquare 10 = .ok (.bipush 10, 2) := by decide +kernel
theorem dX6_leastSquare_12 : decode cX6_leastSquare 12 = .ok (.if_icmp .ge 85, 3) := by decide +kernel
theorem dX6_leastSquare_15 : decode cX6_leastSquare 15 = .ok (.iload_n 1, 1) := by decide +kernel
theorem dX6_leastSquare_16 : decode cX6_leastSquare 16 = .ok (.iload 5, 2) := by decide +kernel
theorem dX6_leastSquare_18 : decode cX6_leastSquare 18 = .ok (.invokestatic 225, 3) := by decide +kernel
theorem dX6_leastSquare_21 : decode cX6_leastSquare 21 = .ok (.ifCond .eq 70, 3) := by decide +kernel
theorem dX6_leastSquare_24 : decode cX6_leastSquare 24 = .ok (.iload 4, 2) := by decide +kernel
theorem dX6_leastSquare_26 : decode cX6_leastSquare 26 = .ok (.aload_n 0, 1) := by decide +kernel
theorem dX6_leastSquare_27 : decode cX6_leastSquare 27 = .ok (.getfield 19, 3) := by decide +kernel
theorem dX6_leastSquare_30 : decode cX6_leastSquare 30 = .ok (.iload_n 2, 1) := by decide +kernel
theorem dX6_leastSquare_31 : decode cX6_leastSquare 31 = .ok (.iload_n 3, 1) := by decide +kernel
theorem dX6_leastSquare_32 : decode cX6_leastSquare 32 = .ok (.iload 5, 2) := by decide +kernel
theorem dX6_leastSquare_34 : decode cX6_leastSquare 34 = .ok (.invokestatic 228, 3) := by decide +kernel
theorem dX6_leastSquare_37 : decode cX6_leastSquare 37 = .ok (.invokevirtual 275, 3) := by decide +kernel
theorem dX6_leastSquare_40 : decode cX6_leastSquare 40 = .ok (.invokestatic 204, 3) := by decide +kernel
theorem dX6_leastSquare_43 : decode cX6_leastSquare 43 = .ok (.istore 4, 2) := by decide +kernel
theorem dX6_leastSquare_45 : decode cX6_leastSquare 45 = .ok (.iload 5, 2) := by decide +kernel
theorem dX6_leastSquare_47 : decode cX6_leastSquare 47 = .ok (.iconst 1, 1) := by decide +kernel
theorem dX6_leastSquare_48 : decode cX6_leastSquare 48 = .ok (.iadd, 1) := by decide +kernel
theorem dX6_leastSquare_49 : decode cX6_leastSquare 49 = .ok (.istore 6, 2) := by decide +kernel
theorem dX6_leastSquare_51 : decode cX6_leastSquare 51 = .ok (.iload 6, 2) := by decide +kernel
theorem dX6_leastSquare_53 : decode cX6_leastSquare 53 = .ok (.bipush 10, 2) := by decide +kernel
theorem dX6_leastSquare_55 : decode cX6_leastSquare 55 = .ok (.if_icmp .ge 36, 3) := by decide +kernel
theorem dX6_leastSquare_58 : decode cX6_leastSquare 58 = .ok (.iload_n 1, 1) := by decide +kernel
theorem dX6_leastSquare_59 : decode cX6_leastSquare 59 = .ok (.iload 6, 2) := by decide +kernel
theorem dX6_leastSquare_61 : decode cX6_leastSquare 61 = .ok (.invokestatic 225, 3) := by decide +kernel
theorem dX6_leastSquare_64 : decode cX6_leastSquare 64 = .ok (.ifCond .eq 21, 3) := by decide +kernel
theorem dX6_leastSquare_67 : decode cX6_leastSquare 67 = .ok (.iload 4, 2) := by decide +kernel
theorem dX6_leastSquare_69 : decode cX6_leastSquare 69 = .ok (.iload 6, 2) := by decide +kernel
theorem dX6_leastSquare_71 : decode cX6_leastSquare 71 = .ok (.iload 5, 2) := by decide +kernel
theorem dX6_leastSquare_73 : decode cX6_leastSquare 73 = .ok (.isub, 1) := by decide +kernel
theorem dX6_leastSquare_74 : decode cX6_leastSquare 74 = .ok (.iload 6, 2) := by decide +kernel
theorem dX6_leastSquare_76 : decode cX6_leastSquare 76 = .ok (.iload 5, 2) := by decide +kernel
theorem dX6_leastSquare_78 : decode cX6_leastSquare 78 = .ok (.isub, 1) := by decide +kernel
theorem dX6_leastSquare_79 : decode cX6_leastSquare 79 = .ok (.imul, 1) := by decide +kernel
theorem dX6_leastSquare_80 : decode cX6_leastSquare 80 = .ok (.invokestatic 204, 3) := by decide +kernel
theorem dX6_leastSquare_83 : decode cX6_leastSquare 83 = .ok (.istore 4, 2) := by decide +kernel
theorem dX6_leastSquare_85 : decode cX6_leastSquare 85 = .ok (.iinc 6 1, 3) := by decide +kernel
theorem dX6_leastSquare_88 : decode cX6_leastSquare 88 = .ok (.goto (-37), 3) := by decide +kernel
theorem dX6_leastSquare_91 : decode cX6_leastSquare 91 = .ok (.iinc 5 1, 3) := by decide +kernel
theorem dX6_leastSquare_94 : decode cX6_leastSquare 94 = .ok (.goto (-86), 3) := by decide +kernel
theorem dX6_leastSquare_97 : decode cX6_leastSquare 97 = .ok (.iload 4, 2) := by decide +kernel
theorem dX6_leastSquare_99 : decode cX6_leastSquare 99 = .ok (.ireturn, 1) := by decide +kernel
theorem dX6_weightOf_0 : decode cX6_weightOf 0 = .ok (.lconst 1, 1) := by decide +kernel
theorem dX6_weightOf_1 : decode cX6_weightOf 1 = .ok (.lstore 4, 2) := by decide +kernel
theorem dX6_weightOf_3 : decode cX6_weightOf 3 = .ok (.iconst 0, 1) := by decide +kernel
theorem dX6_weightOf_4 : decode cX6_weightOf 4 = .ok (.istore 6, 2) := by decide +kernel
theorem dX6_weightOf_6 : decode cX6_weightOf 6 = .ok (.iload 6, 2) := by decide +kernel
theorem dX6_weightOf_8 : decode cX6_weightOf 8 = .ok (.aload_n 0, 1) := by decide +kernel
theorem dX6_weightOf_9 : decode cX6_weightOf 9 = .ok (.getfield 19, 3) := by decide +kernel
theorem dX6_weightOf_12 : decode cX6_weightOf 12 = .ok (.getfield 79, 3) := by decide +kernel
theorem dX6_weightOf_15 : decode cX6_weightOf 15 = .ok (.if_icmp .ge 40, 3) := by decide +kernel
theorem dX6_weightOf_18 : decode cX6_weightOf 18 = .ok (.iload 6, 2) := by decide +kernel
theorem dX6_weightOf_20 : decode cX6_weightOf 20 = .ok (.iload_n 2, 1) := by decide +kernel
theorem dX6_weightOf_21 : decode cX6_weightOf 21 = .ok (.if_icmp .eq 28, 3) := by decide +kernel
theorem dX6_weightOf_24 : decode cX6_weightOf 24 = .ok (.lload 4, 2) := by decide +kernel
theorem dX6_weightOf_26 : decode cX6_weightOf 26 = .ok (.iload_n 1, 1) := by decide +kernel
theorem dX6_weightOf_27 : decode cX6_weightOf 27 = .ok (.iload 6, 2) := by decide +kernel
theorem dX6_weightOf_29 : decode cX6_weightOf 29 = .ok (.ishr, 1) := by decide +kernel
theorem dX6_weightOf_30 : decode cX6_weightOf 30 = .ok (.iconst 1, 1) := by decide +kernel
theorem dX6_weightOf_31 : decode cX6_weightOf 31 = .ok (.iand, 1) := by decide +kernel
theorem dX6_weightOf_32 : decode cX6_weightOf 32 = .ok (.iconst 1, 1) := by decide +kernel
theorem dX6_weightOf_33 : decode cX6_weightOf 33 = .ok (.if_icmp .ne 11, 3) := by decide +kernel
theorem dX6_weightOf_36 : decode cX6_weightOf 36 = .ok (.bipush 10, 2) := by decide +kernel
theorem dX6_weightOf_38 : decode cX6_weightOf 38 = .ok (.iload_n 3, 1) := by decide +kernel
theorem dX6_weightOf_39 : decode cX6_weightOf 39 = .ok (.isub, 1) := by decide +kernel
theorem dX6_weightOf_40 : decode cX6_weightOf 40 = .ok (.i2l, 1) := by decide +kernel
theorem dX6_weightOf_41 : decode cX6_weightOf 41 = .ok (.goto 5, 3) := by decide +kernel
theorem dX6_weightOf_44 : decode cX6_weightOf 44 = .ok (.iload_n 3, 1) := by decide +kernel
theorem dX6_weightOf_45 : decode cX6_weightOf 45 = .ok (.i2l, 1) := by decide +kernel
theorem dX6_weightOf_46 : decode cX6_weightOf 46 = .ok (.lmul, 1) := by decide +kernel
theorem dX6_weightOf_47 : decode cX6_weightOf 47 = .ok (.lstore 4, 2) := by decide +kernel
theorem dX6_weightOf_49 : decode cX6_weightOf 49 = .ok (.iinc 6 1, 3) := by decide +kernel
theorem dX6_weightOf_52 : decode cX6_weightOf 52 = .ok (.goto (-46), 3) := by decide +kernel
theorem dX6_weightOf_55 : decode cX6_weightOf 55 = .ok (.lload 4, 2) := by decide +kernel
theorem dX6_weightOf_57 : decode cX6_weightOf 57 = .ok (.lreturn, 1) := by decide +kernel
theorem dX6_commonDivisor_0 : decode cX6_commonDivisor 0 = .ok (.lload_n 0, 1) := by decide +kernel
theorem dX6_commonDivisor_1 : decode cX6_commonDivisor 1 = .ok (.lstore 4, 2) := by decide +kernel
theorem dX6_commonDivisor_3 : decode cX6_commonDivisor 3 = .ok (.lload_n 2, 1) := by decide +kernel
theorem dX6_commonDivisor_4 : decode cX6_commonDivisor 4 = .ok (.lstore 6, 2) := by decide +kernel
theorem dX6_commonDivisor_6 : decode cX6_commonDivisor 6 = .ok (.iconst 0, 1) := by decide +kernel
theorem dX6_commonDivisor_7 : decode cX6_commonDivisor 7 = .ok (.istore 8, 2) := by decide +kernel
theorem dX6_commonDivisor_9 : decode cX6_commonDivisor 9 = .ok (.iload 8, 2) := by decide +kernel
theorem dX6_commonDivisor_11 : decode cX6_commonDivisor 11 = .ok (.bipush 100, 2) := by decide +kernel
theorem dX6_commonDivisor_13 : decode cX6_commonDivisor 13 = .ok (.if_icmp .ge 31, 3) := by decide +kernel
theorem dX6_commonDivisor_16 : decode cX6_commonDivisor 16 = .ok (.lload 6, 2) := by decide +kernel
theorem dX6_commonDivisor_18 : decode cX6_commonDivisor 18 = .ok (.lconst 0, 1) := by decide +kernel
theorem dX6_commonDivisor_19 : decode cX6_commonDivisor 19 = .ok (.lcmp, 1) := by decide +kernel
theorem dX6_commonDivisor_20 : decode cX6_commonDivisor 20 = .ok (.ifCond .eq 24, 3) := by decide +kernel
theorem dX6_commonDivisor_23 : decode cX6_commonDivisor 23 = .ok (.lload 4, 2) := by decide +kernel
theorem dX6_commonDivisor_25 : decode cX6_commonDivisor 25 = .ok (.lload 6, 2) := by decide +kernel
theorem dX6_commonDivisor_27 : decode cX6_commonDivisor 27 = .ok (.lrem, 1) := by decide +kernel
theorem dX6_commonDivisor_28 : decode cX6_commonDivisor 28 = .ok (.lstore 9, 2) := by decide +kernel
theorem dX6_commonDivisor_30 : decode cX6_commonDivisor 30 = .ok (.lload 6, 2) := by decide +kernel
theorem dX6_commonDivisor_32 : decode cX6_commonDivisor 32 = .ok (.lstore 4, 2) := by decide +kernel
theorem dX6_commonDivisor_34 : decode cX6_commonDivisor 34 = .ok (.lload 9, 2) := by decide +kernel
theorem dX6_commonDivisor_36 : decode cX6_commonDivisor 36 = .ok (.lstore 6, 2) := by decide +kernel
theorem dX6_commonDivisor_38 : decode cX6_commonDivisor 38 = .ok (.iinc 8 1, 3) := by decide +kernel
theorem dX6_commonDivisor_41 : decode cX6_commonDivisor 41 = .ok (.goto (-32), 3) := by decide +kernel
theorem dX6_commonDivisor_44 : decode cX6_commonDivisor 44 = .ok (.lload 4, 2) := by decide +kernel
theorem dX6_commonDivisor_46 : decode cX6_commonDivisor 46 = .ok (.lreturn, 1) := by decide +kernel
theorem dX7_init_0 : decode cX7_init 0 = .ok (.aload_n 0, 1) := by decide +kernel
theorem dX7_init_1 : decode cX7_init 1 = .ok (.invokespecial 1, 3) := by decide +kernel
theorem dX7_init_4 : decode cX7_init 4 = .ok (.aload_n 0, 1) := by decide +kernel
theorem dX7_init_5 : decode cX7_init 5 = .ok (.bipush 80, 2) := by decide +kernel
theorem dX7_init_7 : decode cX7_init 7 = .ok (.newarray .int, 2) := by decide +kernel
theorem dX7_init_9 : decode cX7_init 9 = .ok (.putfield 7, 3) := by decide +kernel
theorem dX7_init_12 : decode cX7_init 12 = .ok (.aload_n 0, 1) := by decide +kernel
theorem dX7_init_13 : decode cX7_init 13 = .ok (.bipush 8, 2) := by decide +kernel
theorem dX7_init_15 : decode cX7_init 15 = .ok (.newarray .int, 2) := by decide +kernel
theorem dX7_init_17 : decode cX7_init 17 = .ok (.putfield 13, 3) := by decide +kernel
theorem dX7_init_20 : decode cX7_init 20 = .ok (.aload_n 0, 1) := by decide +kernel
theorem dX7_init_21 : decode cX7_init 21 = .ok (.bipush 8, 2) := by decide +kernel
theorem dX7_init_23 : decode cX7_init 23 = .ok (.newarray .int, 2) := by decide +kernel
theorem dX7_init_25 : decode cX7_init 25 = .ok (.putfield 16, 3) := by decide +kernel
theorem dX7_init_28 : decode cX7_init 28 = .ok (.aload_n 0, 1) := by decide +kernel
theorem dX7_init_29 : decode cX7_init 29 = .ok (.bipush 8, 2) := by decide +kernel
theorem dX7_init_31 : decode cX7_init 31 = .ok (.newarray .int, 2) := by decide +kernel
theorem dX7_init_33 : decode cX7_init 33 = .ok (.putfield 19, 3) := by decide +kernel
theorem dX7_init_36 : decode cX7_init 36 = .ok (.aload_n 0, 1) := by decide +kernel
theorem dX7_init_37 : decode cX7_init 37 = .ok (.bipush 8, 2) := by decide +kernel
theorem dX7_init_39 : decode cX7_init 39 = .ok (.newarray .int, 2) := by decide +kernel
theorem dX7_init_41 : decode cX7_init 41 = .ok (.putfield 22, 3) := by decide +kernel
theorem dX7_init_44 : decode cX7_init 44 = .ok (.aload_n 0, 1) := by decide +kernel
theorem dX7_init_45 : decode cX7_init 45 = .ok (.bipush 8, 2) := by decide +kernel
theorem dX7_init_47 : decode cX7_init 47 = .ok (.newarray .int, 2) := by decide +kernel
theorem dX7_init_49 : decode cX7_init 49 = .ok (.putfield 25, 3) := by decide +kernel
theorem dX7_init_52 : decode cX7_init 52 = .ok (.aload_n 0, 1) := by decide +kernel
theorem dX7_init_53 : decode cX7_init 53 = .ok (.iconst 5, 1) := by decide +kernel
theorem dX7_init_54 : decode cX7_init 54 = .ok (.newarray .int, 2) := by decide +kernel
theorem dX7_init_56 : decode cX7_init 56 = .ok (.putfield 28, 3) := by decide +kernel
theorem dX7_init_59 : decode cX7_init 59 = .ok (.aload_n 0, 1) := by decide +kernel
theorem dX7_init_60 : decode cX7_init 60 = .ok (.iconst 5, 1) := by decide +kernel
theorem dX7_init_61 : decode cX7_init 61 = .ok (.newarray .int, 2) := by decide +kernel
theorem dX7_init_63 : decode cX7_init 63 = .ok (.putfield 31, 3) := by decide +kernel
theorem dX7_init_66 : decode cX7_init 66 = .ok (.aload_n 0, 1) := by decide +kernel
theorem dX7_init_67 : decode cX7_init 67 = .ok (.bipush 40, 2) := by decide +kernel
theorem dX7_init_69 : decode cX7_init 69 = .ok (.newarray .int, 2) := by decide +kernel
theorem dX7_init_71 : decode cX7_init 71 = .ok (.putfield 34, 3) := by decide +kernel
theorem dX7_init_74 : decode cX7_init 74 = .ok (.aload_n 0, 1) := by decide +kernel
theorem dX7_init_75 : decode cX7_init 75 = .ok (.bipush 10, 2) := by decide +kernel
theorem dX7_init_77 : decode cX7_init 77 = .ok (.newarray .int, 2) := by decide +kernel
theorem dX7_init_79 : decode cX7_init 79 = .ok (.putfield 37, 3) := by decide +kernel
theorem dX7_init_82 : decode cX7_init 82 = .ok (.aload_n 0, 1) := by decide +kernel
theorem dX7_init_83 : decode cX7_init 83 = .ok (.sipush 420, 3) := by decide +kernel
theorem dX7_init_86 : decode cX7_init 86 = .ok (.newarray .int, 2) := by decide +kernel
theorem dX7_init_88 : decode cX7_init 88 = .ok (.putfield 40, 3) := by decide +kernel
theorem dX7_init_91 : decode cX7_init 91 = .ok (.aload_n 0, 1) := by decide +kernel
theorem dX7_init_92 : decode cX7_init 92 = .ok (.bipush 90, 2) := by decide +kernel
theorem dX7_init_94 : decode cX7_init 94 = .ok (.newarray .int, 2) := by decide +kernel
theorem dX7_init_96 : decode cX7_init 96 = .ok (.putfield 43, 3) := by decide +kernel
theorem dX7_init_99 : decode cX7_init 99 = .ok (.aload_n 0, 1) := by decide +kernel
theorem dX7_init_100 : decode cX7_init 100 = .ok (.iconst 2, 1) := by decide +kernel
theorem dX7_init_101 : decode cX7_init 101 = .ok (.newarray .boolean, 2) := by decide +kernel
theorem dX7_init_103 : decode cX7_init 103 = .ok (.putfield 46, 3) := by decide +kernel
theorem dX7_init_106 : decode cX7_init 106 = .ok (.aload_n 0, 1) := by decide +kernel
theorem dX7_init_107 : decode cX7_init 107 = .ok (.bipush 6, 2) := by decide +kernel
theorem dX7_init_109 : decode cX7_init 109 = .ok (.newarray .int, 2) := by decide +kernel
theorem dX7_init_111 : decode cX7_init 111 = .ok (.putfield 50, 3) := by decide +kernel
theorem dX7_init_114 : decode cX7_init 114 = .ok (.aload_n 0, 1) := by decide +kernel
theorem dX7_init_115 : decode cX7_init 115 = .ok (.bipush 6, 2) := by decide +kernel
theorem dX7_init_117 : decode cX7_init 117 = .ok (.newarray .int, 2) := by decide +kernel
theorem dX7_init_119 : decode cX7_init 119 = .ok (.putfield 53, 3) := by decide +kernel
theorem dX7_init_122 : decode cX7_init 122 = .ok (.aload_n 0, 1) := by decide +kernel
theorem dX7_init_123 : decode cX7_init 123 = .ok (.bipush 8, 2) := by decide +kernel
theorem dX7_init_125 : decode cX7_init 125 = .ok (.newarray .int, 2) := by decide +kernel
theorem dX7_init_127 : decode cX7_init 127 = .ok (.putfield 56, 3) := by decide +kernel
theorem dX7_init_130 : decode cX7_init 130 = .ok (.aload_n 0, 1) := by decide +kernel
theorem dX7_init_131 : decode cX7_init 131 = .ok (.bipush 8, 2) := by decide +kernel
theorem dX7_init_133 : decode cX7_init 133 = .ok (.newarray .int, 2) := by decide +kernel
theorem dX7_init_135 : decode cX7_init 135 = .ok (.putfield 59, 3) := by decide +kernel
theorem dX7_init_138 : decode cX7_init 138 = .ok (.aload_n 0, 1) := by decide +kernel
theorem dX7_init_139 : decode cX7_init 139 = .ok (.bipush 10, 2) := by decide +kernel
theorem dX7_init_141 : decode cX7_init 141 = .ok (.newarray .int, 2) := by decide +kernel
theorem dX7_init_143 : decode cX7_init 143 = .ok (.putfield 62, 3) := by decide +kernel
theorem dX7_init_146 : decode cX7_init 146 = .ok (.aload_n 0, 1) := by decide +kernel
theorem dX7_init_147 : decode cX7_init 147 = .ok (.iconst 4, 1) := by decide +kernel
theorem dX7_init_148 : decode cX7_init 148 = .ok (.newarray .int, 2) := by decide +kernel
theorem dX7_init_150 : decode cX7_init 150 = .ok (.putfield 65, 3) := by decide +kernel
theorem dX7_init_153 : decode cX7_init 153 = .ok (.aload_n 0, 1) := by decide +kernel
theorem dX7_init_154 : decode cX7_init 154 = .ok (.iconst 4, 1) := by decide +kernel
theorem dX7_init_155 : decode cX7_init 155 = .ok (.newarray .int, 2) := by decide +kernel
theorem dX7_init_157 : decode cX7_init 157 = .ok (.putfield 68, 3) := by decide +kernel
theorem dX7_init_160 : decode cX7_init 160 = .ok (.return_, 1) := by decide +kernel
theorem dX7_in_0 : decode cX7_in 0 = .ok (.lload_n 0, 1) := by decide +kernel
theorem dX7_in_1 : decode cX7_in 1 = .ok (.lload_n 2, 1) := by decide +kernel
theorem dX7_in_2 : decode cX7_in 2 = .ok (.lcmp, 1) := by decide +kernel
theorem dX7_in_3 : decode cX7_in 3 = .ok (.ifCond .lt 14, 3) := by decide +kernel
theorem dX7_in_6 : decode cX7_in 6 = .ok (.lload_n 0, 1) := by decide +kernel
theorem dX7_in_7 : decode cX7_in 7 = .ok (.lload 4, 2) := by decide +kernel
theorem dX7_in_9 : decode cX7_in 9 = .ok (.lcmp, 1) := by decide +kernel
theorem dX7_in_10 : decode cX7_in 10 = .ok (.ifCond .gt 7, 3) := by decide +kernel
theorem dX7_in_13 : decode cX7_in 13 = .ok (.iconst 1, 1) := by decide +kernel
theorem dX7_in_14 : decode cX7_in 14 = .ok (.goto 4, 3) := by decide +kernel
theorem dX7_in_17 : decode cX7_in 17 = .ok (.iconst 0, 1) := by decide +kernel
theorem dX7_in_18 : decode cX7_in 18 = .ok (.ireturn, 1) := by decide +kernel
theorem dX7_has_0 : decode cX7_has 0 = .ok (.iload_n 0, 1) := by decide +kernel
theorem dX7_has_1 : decode cX7_has 1 = .ok (.iload_n 1, 1) := by decide +kernel
theorem dX7_has_2 : decode cX7_has 2 = .ok (.ishr, 1) := by decide +kernel
theorem dX7_has_3 : decode cX7_has 3 = .ok (.iconst 1, 1) := by decide +kernel
theorem dX7_has_4 : decode cX7_has 4 = .ok (.iand, 1) := by decide +kernel
theorem dX7_has_5 : decode cX7_has 5 = .ok (.iconst 1, 1) := by decide +kernel
theorem dX7_has_6 : decode cX7_has 6 = .ok (.if_icmp .ne 7, 3) := by decide +kernel
theorem dX7_has_9 : decode cX7_has 9 = .ok (.iconst 1, 1) := by decide +kernel
theorem dX7_has_10 : decode cX7_has 10 = .ok (.goto 4, 3) := by decide +kernel
theorem dX7_has_13 : decode cX7_has 13 = .ok (.iconst 0, 1) := by decide +kernel
theorem dX7_has_14 : decode cX7_has 14 = .ok (.ireturn, 1) := by decide +kernel
set_option maxRecDepth 20000 in
theorem ggX7_noRing_X7_in : GoodIn wsX7_noRing wsX7_in := goodIn_r _ [5] (by decide +kernel) (by decide +kernel)
set_option maxRecDepth 20000 in
theorem gX7_noRing_X7_in : GoodIn wsX7_noRing (va_wsS RX7 78 yX7_in wsX7_in) := goodIn_app (goodIn_of _ (by decide +kernel)) ggX7_noRing_X7_in
theorem dX7_noRing_0 : decode cX7_noRing 0 = .ok (.iload_n 1, 1) := by decide +kernel
theorem dX7_noRing_1 : decode cX7_noRing 1 = .ok (.i2l, 1) := by decide +kernel
theorem dX7_noRing_2 : decode cX7_noRing 2 = .ok (.lconst 0, 1) := by decide +kernel
theorem dX7_noRing_3 : decode cX7_noRing 3 = .ok (.aload_n 0, 1) := by decide +kernel
theorem dX7_noRing_4 : decode cX7_noRing 4 = .ok (.getfield 75, 3) := by decide +kernel
theorem dX7_noRing_7 : decode cX7_noRing 7 = .ok (.iconst 1, 1) := by decide +kernel
theorem dX7_noRing_8 : decode cX7_noRing 8 = .ok (.isub, 1) := by decide +kernel
theorem dX7_noRing_9 : decode cX7_noRing 9 = .ok (.i2l, 1) := by decide +kernel
theorem dX7_noRing_10 : decode cX7_noRing 10 = .ok (.invokestatic 78, 3) := by decide +kernel
theorem dX7_noRing_13 : decode cX7_noRing 13 = .ok (.ifCond .ne 7, 3) := by decide +kernel
theorem dX7_noRing_16 : decode cX7_noRing 16 = .ok (.iconst 1, 1) := by decide +kernel
theorem dX7_noRing_17 : decode cX7_noRing 17 = .ok (.goto 4, 3) := by decide +kernel
theorem dX7_noRing_20 : decode cX7_noRing 20 = .ok (.iconst 0, 1) := by decide +kernel
theorem dX7_noRing_21 : decode cX7_noRing 21 = .ok (.ireturn, 1) := by decide +kernel
set_option maxRecDepth 20000 in
theorem ggX7_write_X7_in : GoodIn wsX7_write wsX7_in := goodIn_r _ [8] (by decide +kernel) (by decide +kernel)
set_option maxRecDepth 20000 in
theorem gX7_write_X7_in : GoodIn wsX7_write (va_wsS RX7 78 yX7_in wsX7_in) := goodIn_app (goodIn_of _ (by decide +kernel)) ggX7_write_X7_in
theorem dX7_write_0 : decode cX7_write 0 = .ok (.aload_n 0, 1) := by decide +kernel
theorem dX7_write_1 : decode cX7_write 1 = .ok (.iconst 0, 1) := by decide +kernel
theorem dX7_write_2 : decode cX7_write 2 = .ok (.putfield 71, 3) := by decide +kernel
theorem dX7_write_5 : decode cX7_write 5 = .ok (.iload_n 1, 1) := by decide +kernel
theorem dX7_write_6 : decode cX7_write 6 = .ok (.i2l, 1) := by decide +kernel
theorem dX7_write_7 : decode cX7_write 7 = .ok (.lconst 1, 1) := by decide +kernel
theorem dX7_write_8 : decode cX7_write 8 = .ok (.ldc2_w 82, 3) := by decide +kernel
theorem dX7_write_11 : decode cX7_write 11 = .ok (.invokestatic 78, 3) := by decide +kernel
theorem dX7_write_14 : decode cX7_write 14 = .ok (.ifCond .ne 6, 3) := by decide +kernel
theorem dX7_write_17 : decode cX7_write 17 = .ok (.bipush (-2), 2) := by decide +kernel
theorem dX7_write_19 : decode cX7_write 19 = .ok (.ireturn, 1) := by decide +kernel
theorem dX7_write_20 : decode cX7_write 20 = .ok (.aload_n 0, 1) := by decide +kernel
theorem dX7_write_21 : decode cX7_write 21 = .ok (.getfield 84, 3) := by decide +kernel
theorem dX7_write_24 : decode cX7_write 24 = .ok (.iload_n 1, 1) := by decide +kernel
theorem dX7_write_25 : decode cX7_write 25 = .ok (.iadd, 1) := by decide +kernel
theorem dX7_write_26 : decode cX7_write 26 = .ok (.bipush 80, 2) := by decide +kernel
theorem dX7_write_28 : decode cX7_write 28 = .ok (.if_icmp .le 6, 3) := by decide +kernel
theorem dX7_write_31 : decode cX7_write 31 = .ok (.bipush (-4), 2) := by decide +kernel
theorem dX7_write_33 : decode cX7_write 33 = .ok (.ireturn, 1) := by decide +kernel
theorem dX7_write_34 : decode cX7_write 34 = .ok (.iload_n 1, 1) := by decide +kernel
theorem dX7_write_35 : decode cX7_write 35 = .ok (.iconst 1, 1) := by decide +kernel
theorem dX7_write_36 : decode cX7_write 36 = .ok (.isub, 1) := by decide +kernel
theorem dX7_write_37 : decode cX7_write 37 = .ok (.istore 4, 2) := by decide +kernel
theorem dX7_write_39 : decode cX7_write 39 = .ok (.iload 4, 2) := by decide +kernel
theorem dX7_write_41 : decode cX7_write 41 = .ok (.ifCond .lt 40, 3) := by decide +kernel
theorem dX7_write_44 : decode cX7_write 44 = .ok (.aload_n 0, 1) := by decide +kernel
theorem dX7_write_45 : decode cX7_write 45 = .ok (.getfield 7, 3) := by decide +kernel
theorem dX7_write_48 : decode cX7_write 48 = .ok (.aload_n 0, 1) := by decide +kernel
theorem dX7_write_49 : decode cX7_write 49 = .ok (.getfield 84, 3) := by decide +kernel
theorem dX7_write_52 : decode cX7_write 52 = .ok (.lload_n 2, 1) := by decide +kernel
theorem dX7_write_53 : decode cX7_write 53 = .ok (.bipush 8, 2) := by decide +kernel
theorem dX7_write_55 : decode cX7_write 55 = .ok (.iload 4, 2) := by decide +kernel
theorem dX7_write_57 : decode cX7_write 57 = .ok (.imul, 1) := by decide +kernel
theorem dX7_write_58 : decode cX7_write 58 = .ok (.lshr, 1) := by decide +kernel
theorem dX7_write_59 : decode cX7_write 59 = .ok (.l2i, 1) := by decide +kernel
theorem dX7_write_60 : decode cX7_write 60 = .ok (.sipush 255, 3) := by decide +kernel
theorem dX7_write_63 : decode cX7_write 63 = .ok (.iand, 1) := by decide +kernel
theorem dX7_write_64 : decode cX7_write 64 = .ok (.iastore, 1) := by decide +kernel
theorem dX7_write_65 : decode cX7_write 65 = .ok (.aload_n 0, 1) := by decide +kernel
theorem dX7_write_66 : decode cX7_write 66 = .ok (.dup, 1) := by decide +kernel
theorem dX7_write_67 : decode cX7_write 67 = .ok (.getfield 84, 3) := by decide +kernel
theorem dX7_write_70 : decode cX7_write 70 = .ok (.iconst 1, 1) := by decide +kernel
theorem dX7_write_71 : decode cX7_write 71 = .ok (.iadd, 1) := by decide +kernel
theorem dX7_write_72 : decode cX7_write 72 = .ok (.putfield 84, 3) := by decide +kernel
theorem dX7_write_75 : decode cX7_write 75 = .ok (.iinc 4 (-1), 3) := by decide +kernel
theorem dX7_write_78 : decode cX7_write 78 = .ok (.goto (-39), 3) := by decide +kernel
theorem dX7_write_81 : decode cX7_write 81 = .ok (.aload_n 0, 1) := by decide +kernel
theorem dX7_write_82 : decode cX7_write 82 = .ok (.getfield 84, 3) := by decide +kernel
theorem dX7_write_85 : decode cX7_write 85 = .ok (.ireturn, 1) := by decide +kernel
theorem dX7_wipe_0 : decode cX7_wipe 0 = .ok (.aload_n 0, 1) := by decide +kernel
theorem dX7_wipe_1 : decode cX7_wipe 1 = .ok (.iconst 0, 1) := by decide +kernel
theorem dX7_wipe_2 : decode cX7_wipe 2 = .ok (.putfield 71, 3) := by decide +kernel
theorem dX7_wipe_5 : decode cX7_wipe 5 = .ok (.aload_n 0, 1) := by decide +kernel
theorem dX7_wipe_6 : decode cX7_wipe 6 = .ok (.getfield 84, 3) := by decide +kernel
theorem dX7_wipe_9 : decode cX7_wipe 9 = .ok (.istore_n 1, 1) := by decide +kernel
theorem dX7_wipe_10 : decode cX7_wipe 10 = .ok (.aload_n 0, 1) := by decide +kernel
theorem dX7_wipe_11 : decode cX7_wipe 11 = .ok (.iconst 0, 1) := by decide +kernel
theorem dX7_wipe_12 : decode cX7_wipe 12 = .ok (.putfield 84, 3) := by decide +kernel
theorem dX7_wipe_15 : decode cX7_wipe 15 = .ok (.iload_n 1, 1) := by decide +kernel
theorem dX7_wipe_16 : decode cX7_wipe 16 = .ok (.ireturn, 1) := by decide +kernel
set_option maxRecDepth 20000 in
theorem ggX7_figure_X7_in : GoodIn wsX7_figure wsX7_in := goodIn_r _ [7] (by decide +kernel) (by decide +kernel)
set_option maxRecDepth 20000 in
theorem gX7_figure_X7_in : GoodIn wsX7_figure (va_wsS RX7 78 yX7_in wsX7_in) := goodIn_app (goodIn_of _ (by decide +kernel)) ggX7_figure_X7_in
theorem dX7_figure_0 : decode cX7_figure 0 = .ok (.aload_n 0, 1) := by decide +kernel
theorem dX7_figure_1 : decode cX7_figure 1 = .ok (.getfield 87, 3) := by decide +kernel
theorem dX7_figure_4 : decode cX7_figure 4 = .ok (.aload_n 0, 1) := by decide +kernel
theorem dX7_figure_5 : decode cX7_figure 5 = .ok (.getfield 84, 3) := by decide +kernel
theorem dX7_figure_8 : decode cX7_figure 8 = .ok (.if_icmp .eq 26, 3) := by decide +kernel
theorem dX7_figure_11 : decode cX7_figure 11 = .ok (.aload_n 0, 1) := by decide +kernel
theorem dX7_figure_12 : decode cX7_figure 12 = .ok (.getfield 7, 3) := by decide +kernel
theorem dX7_figure_15 : decode cX7_figure 15 = .ok (.aload_n 0, 1) := by decide +kernel
theorem dX7_figure_16 : decode cX7_figure 16 = .ok (.getfield 87, 3) := by decide +kernel
theorem dX7_figure_19 : decode cX7_figure 19 = .ok (.iaload, 1) := by decide +kernel
theorem dX7_figure_20 : decode cX7_figure 20 = .ok (.bipush 48, 2) := by decide +kernel
theorem dX7_figure_22 : decode cX7_figure 22 = .ok (.isub, 1) := by decide +kernel
theorem dX7_figure_23 : decode cX7_figure 23 = .ok (.i2l, 1) := by decide +kernel
theorem dX7_figure_24 : decode cX7_figure 24 = .ok (.iload_n 1, 1) := by decide +kernel
theorem dX7_figure_25 : decode cX7_figure 25 = .ok (.i2l, 1) := by decide +kernel
theorem dX7_figure_26 : decode cX7_figure 26 = .ok (.iload_n 2, 1) := by decide +kernel
theorem dX7_figure_27 : decode cX7_figure 27 = .ok (.i2l, 1) := by decide +kernel
theorem dX7_figure_28 : decode cX7_figure 28 = .ok (.invokestatic 78, 3) := by decide +kernel
theorem dX7_figure_31 : decode cX7_figure 31 = .ok (.ifCond .ne 6, 3) := by decide +kernel
theorem dX7_figure_34 : decode cX7_figure 34 = .ok (.bipush (-9), 2) := by decide +kernel
theorem dX7_figure_36 : decode cX7_figure 36 = .ok (.ireturn, 1) := by decide +kernel
theorem dX7_figure_37 : decode cX7_figure 37 = .ok (.aload_n 0, 1) := by decide +kernel
theorem dX7_figure_38 : decode cX7_figure 38 = .ok (.dup, 1) := by decide +kernel
theorem dX7_figure_39 : decode cX7_figure 39 = .ok (.getfield 87, 3) := by decide +kernel
theorem dX7_figure_42 : decode cX7_figure 42 = .ok (.iconst 1, 1) := by decide +kernel
theorem dX7_figure_43 : decode cX7_figure 43 = .ok (.iadd, 1) := by decide +kernel
theorem dX7_figure_44 : decode cX7_figure 44 = .ok (.putfield 87, 3) := by decide +kernel
theorem dX7_figure_47 : decode cX7_figure 47 = .ok (.aload_n 0, 1) := by decide +kernel
theorem dX7_figure_48 : decode cX7_figure 48 = .ok (.getfield 7, 3) := by decide +kernel
theorem dX7_figure_51 : decode cX7_figure 51 = .ok (.aload_n 0, 1) := by decide +kernel
theorem dX7_figure_52 : decode cX7_figure 52 = .ok (.getfield 87, 3) := by decide +kernel
theorem dX7_figure_55 : decode cX7_figure 55 = .ok (.iconst 1, 1) := by decide +kernel
theorem dX7_figure_56 : decode cX7_figure 56 = .ok (.isub, 1) := by decide +kernel
theorem dX7_figure_57 : decode cX7_figure 57 = .ok (.iaload, 1) := by decide +kernel
theorem dX7_figure_58 : decode cX7_figure 58 = .ok (.bipush 48, 2) := by decide +kernel
theorem dX7_figure_60 : decode cX7_figure 60 = .ok (.isub, 1) := by decide +kernel
theorem dX7_figure_61 : decode cX7_figure 61 = .ok (.ireturn, 1) := by decide +kernel
theorem dX7_isTold_0 : decode cX7_isTold 0 = .ok (.iconst 0, 1) := by decide +kernel
theorem dX7_isTold_1 : decode cX7_isTold 1 = .ok (.istore_n 2, 1) := by decide +kernel
theorem dX7_isTold_2 : decode cX7_isTold 2 = .ok (.iconst 0, 1) := by decide +kernel
theorem dX7_isTold_3 : decode cX7_isTold 3 = .ok (.istore_n 3, 1) := by decide +kernel
theorem dX7_isTold_4 : decode cX7_isTold 4 = .ok (.iload_n 3, 1) := by decide +kernel
theorem dX7_isTold_5 : decode cX7_isTold 5 = .ok (.aload_n 0, 1) := by decide +kernel
theorem dX7_isTold_6 : decode cX7_isTold 6 = .ok (.getfield 90, 3) := by decide +kernel
theorem dX7_isTold_9 : decode cX7_isTold 9 = .ok (.if_icmp .ge 33, 3) := by decide +kernel
theorem dX7_isTold_12 : decode cX7_isTold 12 = .ok (.iload_n 2, 1) := by decide +kernel
theorem dX7_isTold_13 : decode cX7_isTold 13 = .ok (.ifCond .ne 17, 3) := by decide +kernel
theorem dX7_isTold_16 : decode cX7_isTold 16 = .ok (.aload_n 0, 1) := by decide +kernel
theorem dX7_isTold_17 : decode cX7_isTold 17 = .ok (.getfield 34, 3) := by decide +kernel
theorem dX7_isTold_20 : decode cX7_isTold 20 = .ok (.iconst 5, 1) := by decide +kernel
theorem dX7_isTold_21 : decode cX7_isTold 21 = .ok (.iload_n 3, 1) := by decide +kernel
theorem dX7_isTold_22 : decode cX7_isTold 22 = .ok (.imul, 1) := by decide +kernel
theorem dX7_isTold_23 : decode cX7_isTold 23 = .ok (.iconst 1, 1) := by decide +kernel
theorem dX7_isTold_24 : decode cX7_isTold 24 = .ok (.iadd, 1) := by decide +kernel
theorem dX7_isTold_25 : decode cX7_isTold 25 = .ok (.iaload, 1) := by decide +kernel
theorem dX7_isTold_26 : decode cX7_isTold 26 = .ok (.iload_n 1, 1) := by decide +kernel
theorem dX7_isTold_27 : decode cX7_isTold 27 = .ok (.if_icmp .ne 7, 3) := by decide +kernel
theorem dX7_isTold_30 : decode cX7_isTold 30 = .ok (.iconst 1, 1) := by decide +kernel
theorem dX7_isTold_31 : decode cX7_isTold 31 = .ok (.goto 4, 3) := by decide +kernel
theorem dX7_isTold_34 : decode cX7_isTold 34 = .ok (.iconst 0, 1) := by decide +kernel
theorem dX7_isTold_35 : decode cX7_isTold 35 = .ok (.istore_n 2, 1) := by decide +kernel
theorem dX7_isTold_36 : decode cX7_isTold 36 = .ok (.iinc 3 1, 3) := by decide +kernel
theorem dX7_isTold_39 : decode cX7_isTold 39 = .ok (.goto (-35), 3) := by decide +kernel
theorem dX7_isTold_42 : decode cX7_isTold 42 = .ok (.iload_n 2, 1) := by decide +kernel
theorem dX7_isTold_43 : decode cX7_isTold 43 = .ok (.ireturn, 1) := by decide +kernel
set_option maxRecDepth 20000 in
theorem ggX7_readRing_X7_figure : GoodIn wsX7_readRing wsX7_figure := goodIn_r _ [10, 1, 2, 3, 11, 12, 9, 13, 18, 19, 20, 21, 22, 23, 24, 25, 26, 27, 28, 29, 30, 31, 32, 33, 34, 35, 36, 37, 38, 39, 40, 41, 42, 43, 44, 45, 46, 47, 48, 49, 50, 51, 52, 53, 54, 55, 56, 57] (by decide +kernel) (by decide +kernel)
set_option maxRecDepth 20000 in
theorem gX7_readRing_X7_figure : GoodIn wsX7_readRing (wsV RX7 93 RX7 yX7_figure wsX7_figure) := goodIn_app (goodIn_of _ (by decide +kernel)) ggX7_readRing_X7_figure
set_option maxRecDepth 20000 in
theorem ggX7_readRing_X7_isTold : GoodIn wsX7_readRing wsX7_isTold := goodIn_r _ [17, 4, 5, 18, 19, 20, 21, 22, 23, 24, 25, 26, 27, 28, 29, 30, 31, 32, 33, 34, 35, 36, 37, 38, 39, 40, 41, 42, 43, 44, 45, 46, 47, 48, 49, 50, 51, 52, 53, 54, 55, 56, 57] (by decide +kernel) (by decide +kernel)
set_option maxRecDepth 20000 in
theorem gX7_readRing_X7_isTold : GoodIn wsX7_readRing (wsV RX7 97 RX7 yX7_isTold wsX7_isTold) := goodIn_app (goodIn_of _ (by decide +kernel)) ggX7_readRing_X7_isTold
theorem dX7_readRing_0 : decode cX7_readRing 0 = .ok (.aload_n 0, 1) := by decide +kernel
theorem dX7_readRing_1 : decode cX7_readRing 1 = .ok (.iconst 0, 1) := by decide +kernel
theorem dX7_readRing_2 : decode cX7_readRing 2 = .ok (.iconst 4, 1) := by decide +kernel
theorem dX7_readRing_3 : decode cX7_readRing 3 = .ok (.invokevirtual 93, 3) := by decide +kernel
theorem dX7_readRing_6 : decode cX7_readRing 6 = .ok (.istore_n 1, 1) := by decide +kernel
theorem dX7_readRing_7 : decode cX7_readRing 7 = .ok (.iload_n 1, 1) := by decide +kernel
theorem dX7_readRing_8 : decode cX7_readRing 8 = .ok (.bipush (-9), 2) := by decide +kernel
theorem dX7_readRing_10 : decode cX7_readRing 10 = .ok (.if_icmp .ne 8, 3) := by decide +kernel
theorem dX7_readRing_13 : decode cX7_readRing 13 = .ok (.bipush (-9), 2) := by decide +kernel
theorem dX7_readRing_15 : decode cX7_readRing 15 = .ok (.goto 10, 3) := by decide +kernel
theorem dX7_readRing_18 : decode cX7_readRing 18 = .ok (.aload_n 0, 1) := by decide +kernel
theorem dX7_readRing_19 : decode cX7_readRing 19 = .ok (.iconst 0, 1) := by decide +kernel
theorem dX7_readRing_20 : decode cX7_readRing 20 = .ok (.bipush 9, 2) := by decide +kernel
theorem dX7_readRing_22 : decode cX7_readRing 22 = .ok (.invokevirtual 93, 3) := by decide +kernel
theorem dX7_readRing_25 : decode cX7_readRing 25 = .ok (.istore_n 2, 1) := by decide +kernel
theorem dX7_readRing_26 : decode cX7_readRing 26 = .ok (.iload_n 2, 1) := by decide +kernel
theorem dX7_readRing_27 : decode cX7_readRing 27 = .ok (.bipush (-9), 2) := by decide +kernel
theorem dX7_readRing_29 : decode cX7_readRing 29 = .ok (.if_icmp .eq 38, 3) := by decide +kernel
theorem dX7_readRing_32 : decode cX7_readRing 32 = .ok (.aload_n 0, 1) := by decide +kernel
theorem dX7_readRing_33 : decode cX7_readRing 33 = .ok (.getfield 87, 3) := by decide +kernel
theorem dX7_readRing_36 : decode cX7_readRing 36 = .ok (.aload_n 0, 1) := by decide +kernel
theorem dX7_readRing_37 : decode cX7_readRing 37 = .ok (.getfield 84, 3) := by decide +kernel
theorem dX7_readRing_40 : decode cX7_readRing 40 = .ok (.if_icmp .ge 32, 3) := by decide +kernel
theorem dX7_readRing_43 : decode cX7_readRing 43 = .ok (.aload_n 0, 1) := by decide +kernel
theorem dX7_readRing_44 : decode cX7_readRing 44 = .ok (.bipush 10, 2) := by decide +kernel
theorem dX7_readRing_46 : decode cX7_readRing 46 = .ok (.aload_n 0, 1) := by decide +kernel
theorem dX7_readRing_47 : decode cX7_readRing 47 = .ok (.getfield 7, 3) := by decide +kernel
theorem dX7_readRing_50 : decode cX7_readRing 50 = .ok (.aload_n 0, 1) := by decide +kernel
theorem dX7_readRing_51 : decode cX7_readRing 51 = .ok (.getfield 87, 3) := by decide +kernel
theorem dX7_readRing_54 : decode cX7_readRing 54 = .ok (.iaload, 1) := by decide +kernel
theorem dX7_readRing_55 : decode cX7_readRing 55 = .ok (.bipush 48, 2) := by decide +kernel
theorem dX7_readRing_57 : decode cX7_readRing 57 = .ok (.isub, 1) := by decide +kernel
theorem dX7_readRing_58 : decode cX7_readRing 58 = .ok (.imul, 1) := by decide +kernel
theorem dX7_readRing_59 : decode cX7_readRing 59 = .ok (.iload_n 2, 1) := by decide +kernel
theorem dX7_readRing_60 : decode cX7_readRing 60 = .ok (.iadd, 1) := by decide +kernel
theorem dX7_readRing_61 : decode cX7_readRing 61 = .ok (.invokevirtual 97, 3) := by decide +kernel
theorem dX7_readRing_64 : decode cX7_readRing 64 = .ok (.ifCond .eq 8, 3) := by decide +kernel
theorem dX7_readRing_67 : decode cX7_readRing 67 = .ok (.bipush (-9), 2) := by decide +kernel
theorem dX7_readRing_69 : decode cX7_readRing 69 = .ok (.goto 10, 3) := by decide +kernel
theorem dX7_readRing_72 : decode cX7_readRing 72 = .ok (.aload_n 0, 1) := by decide +kernel
theorem dX7_readRing_73 : decode cX7_readRing 73 = .ok (.iconst 0, 1) := by decide +kernel
theorem dX7_readRing_74 : decode cX7_readRing 74 = .ok (.bipush 9, 2) := by decide +kernel
theorem dX7_readRing_76 : decode cX7_readRing 76 = .ok (.invokevirtual 93, 3) := by decide +kernel
theorem dX7_readRing_79 : decode cX7_readRing 79 = .ok (.istore_n 3, 1) := by decide +kernel
theorem dX7_readRing_80 : decode cX7_readRing 80 = .ok (.iload_n 3, 1) := by decide +kernel
theorem dX7_readRing_81 : decode cX7_readRing 81 = .ok (.bipush (-9), 2) := by decide +kernel
theorem dX7_readRing_83 : decode cX7_readRing 83 = .ok (.if_icmp .ne 8, 3) := by decide +kernel
theorem dX7_readRing_86 : decode cX7_readRing 86 = .ok (.bipush (-9), 2) := by decide +kernel
theorem dX7_readRing_88 : decode cX7_readRing 88 = .ok (.goto 10, 3) := by decide +kernel
theorem dX7_readRing_91 : decode cX7_readRing 91 = .ok (.aload_n 0, 1) := by decide +kernel
theorem dX7_readRing_92 : decode cX7_readRing 92 = .ok (.iconst 1, 1) := by decide +kernel
theorem dX7_readRing_93 : decode cX7_readRing 93 = .ok (.bipush 9, 2) := by decide +kernel
theorem dX7_readRing_95 : decode cX7_readRing 95 = .ok (.invokevirtual 93, 3) := by decide +kernel
theorem dX7_readRing_98 : decode cX7_readRing 98 = .ok (.istore 4, 2) := by decide +kernel
theorem dX7_readRing_100 : decode cX7_readRing 100 = .ok (.iload 4, 2) := by decide +kernel
theorem dX7_readRing_102 : decode cX7_readRing 102 = .ok (.bipush (-9), 2) := by decide +kernel
theorem dX7_readRing_104 : decode cX7_readRing 104 = .ok (.if_icmp .ne 8, 3) := by decide +kernel
theorem dX7_readRing_107 : decode cX7_readRing 107 = .ok (.bipush (-9), 2) := by decide +kernel
theorem dX7_readRing_109 : decode cX7_readRing 109 = .ok (.goto 10, 3) := by decide +kernel
theorem dX7_readRing_112 : decode cX7_readRing 112 = .ok (.aload_n 0, 1) := by decide +kernel
theorem dX7_readRing_113 : decode cX7_readRing 113 = .ok (.iconst 1, 1) := by decide +kernel
theorem dX7_readRing_114 : decode cX7_readRing 114 = .ok (.bipush 9, 2) := by decide +kernel
theorem dX7_readRing_116 : decode cX7_readRing 116 = .ok (.invokevirtual 93, 3) := by decide +kernel
theorem dX7_readRing_119 : decode cX7_readRing 119 = .ok (.istore 5, 2) := by decide +kernel
theorem dX7_readRing_121 : decode cX7_readRing 121 = .ok (.iload 5, 2) := by decide +kernel
theorem dX7_readRing_123 : decode cX7_readRing 123 = .ok (.bipush (-9), 2) := by decide +kernel
theorem dX7_readRing_125 : decode cX7_readRing 125 = .ok (.if_icmp .ne 8, 3) := by decide +kernel
theorem dX7_readRing_128 : decode cX7_readRing 128 = .ok (.bipush (-9), 2) := by decide +kernel
theorem dX7_readRing_130 : decode cX7_readRing 130 = .ok (.goto 10, 3) := by decide +kernel
theorem dX7_readRing_133 : decode cX7_readRing 133 = .ok (.aload_n 0, 1) := by decide +kernel
theorem dX7_readRing_134 : decode cX7_readRing 134 = .ok (.iconst 0, 1) := by decide +kernel
theorem dX7_readRing_135 : decode cX7_readRing 135 = .ok (.bipush 9, 2) := by decide +kernel
theorem dX7_readRing_137 : decode cX7_readRing 137 = .ok (.invokevirtual 93, 3) := by decide +kernel
theorem dX7_readRing_140 : decode cX7_readRing 140 = .ok (.istore 6, 2) := by decide +kernel
theorem dX7_readRing_142 : decode cX7_readRing 142 = .ok (.iload 6, 2) := by decide +kernel
theorem dX7_readRing_144 : decode cX7_readRing 144 = .ok (.bipush (-9), 2) := by decide +kernel
theorem dX7_readRing_146 : decode cX7_readRing 146 = .ok (.if_icmp .ne 5, 3) := by decide +kernel
theorem dX7_readRing_149 : decode cX7_readRing 149 = .ok (.iconst 0, 1) := by decide +kernel
theorem dX7_readRing_150 : decode cX7_readRing 150 = .ok (.ireturn, 1) := by decide +kernel
theorem dX7_readRing_151 : decode cX7_readRing 151 = .ok (.iconst 5, 1) := by decide +kernel
theorem dX7_readRing_152 : decode cX7_readRing 152 = .ok (.aload_n 0, 1) := by decide +kernel
theorem dX7_readRing_153 : decode cX7_readRing 153 = .ok (.getfield 90, 3) := by decide +kernel
theorem dX7_readRing_156 : decode cX7_readRing 156 = .ok (.imul, 1) := by decide +kernel
theorem dX7_readRing_157 : decode cX7_readRing 157 = .ok (.istore 7, 2) := by decide +kernel
theorem dX7_readRing_159 : decode cX7_readRing 159 = .ok (.aload_n 0, 1) := by decide +kernel
theorem dX7_readRing_160 : decode cX7_readRing 160 = .ok (.getfield 34, 3) := by decide +kernel
theorem dX7_readRing_163 : decode cX7_readRing 163 = .ok (.iload 7, 2) := by decide +kernel
theorem dX7_readRing_165 : decode cX7_readRing 165 = .ok (.iload_n 1, 1) := by decide +kernel
theorem dX7_readRing_166 : decode cX7_readRing 166 = .ok (.iastore, 1) := by decide +kernel
theorem dX7_readRing_167 : decode cX7_readRing 167 = .ok (.aload_n 0, 1) := by decide +kernel
theorem dX7_readRing_168 : decode cX7_readRing 168 = .ok (.getfield 34, 3) := by decide +kernel
theorem dX7_readRing_171 : decode cX7_readRing 171 = .ok (.iload 7, 2) := by decide +kernel
theorem dX7_readRing_173 : decode cX7_readRing 173 = .ok (.iconst 1, 1) := by decide +kernel
theorem dX7_readRing_174 : decode cX7_readRing 174 = .ok (.iadd, 1) := by decide +kernel
theorem dX7_readRing_175 : decode cX7_readRing 175 = .ok (.bipush 10, 2) := by decide +kernel
theorem dX7_readRing_177 : decode cX7_readRing 177 = .ok (.iload_n 3, 1) := by decide +kernel
theorem dX7_readRing_178 : decode cX7_readRing 178 = .ok (.imul, 1) := by decide +kernel
theorem dX7_readRing_179 : decode cX7_readRing 179 = .ok (.iload_n 2, 1) := by decide +kernel
theorem dX7_readRing_180 : decode cX7_readRing 180 = .ok (.iadd, 1) := by decide +kernel
theorem dX7_readRing_181 : decode cX7_readRing 181 = .ok (.iastore, 1) := by decide +kernel
theorem dX7_readRing_182 : decode cX7_readRing 182 = .ok (.aload_n 0, 1) := by decide +kernel
theorem dX7_readRing_183 : decode cX7_readRing 183 = .ok (.getfield 34, 3) := by decide +kernel
theorem dX7_readRing_186 : decode cX7_readRing 186 = .ok (.iload 7, 2) := by decide +kernel
theorem dX7_readRing_188 : decode cX7_readRing 188 = .ok (.iconst 2, 1) := by decide +kernel
theorem dX7_readRing_189 : decode cX7_readRing 189 = .ok (.iadd, 1) := by decide +kernel
theorem dX7_readRing_190 : decode cX7_readRing 190 = .ok (.iload 4, 2) := by decide +kernel
theorem dX7_readRing_192 : decode cX7_readRing 192 = .ok (.iastore, 1) := by decide +kernel
theorem dX7_readRing_193 : decode cX7_readRing 193 = .ok (.aload_n 0, 1) := by decide +kernel
theorem dX7_readRing_194 : decode cX7_readRing 194 = .ok (.getfield 34, 3) := by decide +kernel
theorem dX7_readRing_197 : decode cX7_readRing 197 = .ok (.iload 7, 2) := by decide +kernel
theorem dX7_readRing_199 : decode cX7_readRing 199 = .ok (.iconst 3, 1) := by decide +kernel
theorem dX7_readRing_200 : decode cX7_readRing 200 = .ok (.iadd, 1) := by decide +kernel
theorem dX7_readRing_201 : decode cX7_readRing 201 = .ok (.iload 5, 2) := by decide +kernel
theorem dX7_readRing_203 : decode cX7_readRing 203 = .ok (.iastore, 1) := by decide +kernel
theorem dX7_readRing_204 : decode cX7_readRing 204 = .ok (.aload_n 0, 1) := by decide +kernel
theorem dX7_readRing_205 : decode cX7_readRing 205 = .ok (.getfield 34, 3) := by decide +kernel
theorem dX7_readRing_208 : decode cX7_readRing 208 = .ok (.iload 7, 2) := by decide +kernel
theorem dX7_readRing_210 : decode cX7_readRing 210 = .ok (.iconst 4, 1) := by decide +kernel
theorem dX7_readRing_211 : decode cX7_readRing 211 = .ok (.iadd, 1) := by decide +kernel
theorem dX7_readRing_212 : decode cX7_readRing 212 = .ok (.iload 6, 2) := by decide +kernel
theorem dX7_readRing_214 : decode cX7_readRing 214 = .ok (.iastore, 1) := by decide +kernel
theorem dX7_readRing_215 : decode cX7_readRing 215 = .ok (.aload_n 0, 1) := by decide +kernel
theorem dX7_readRing_216 : decode cX7_readRing 216 = .ok (.dup, 1) := by decide +kernel
theorem dX7_readRing_217 : decode cX7_readRing 217 = .ok (.getfield 90, 3) := by decide +kernel
theorem dX7_readRing_220 : decode cX7_readRing 220 = .ok (.iconst 1, 1) := by decide +kernel
theorem dX7_readRing_221 : decode cX7_readRing 221 = .ok (.iadd, 1) := by decide +kernel
theorem dX7_readRing_222 : decode cX7_readRing 222 = .ok (.putfield 90, 3) := by decide +kernel
theorem dX7_readRing_225 : decode cX7_readRing 225 = .ok (.iconst 1, 1) := by decide +kernel
theorem dX7_readRing_226 : decode cX7_readRing 226 = .ok (.ireturn, 1) := by decide +kernel
set_option maxRecDepth 20000 in
theorem ggX7_readStuff_X7_figure : GoodIn wsX7_readStuff wsX7_figure := goodIn_r _ [7, 8, 9, 10, 11, 12, 6, 13, 14, 15, 16, 17, 18, 19, 20, 21, 22, 23, 24, 25, 26, 27, 28, 29, 30, 31, 32, 33, 34, 35, 36, 37, 38, 39, 40, 41, 42, 43, 44, 45, 46, 47, 48, 49, 50, 51, 52, 53] (by decide +kernel) (by decide +kernel)
set_option maxRecDepth 20000 in
theorem gX7_readStuff_X7_figure : GoodIn wsX7_readStuff (wsV RX7 93 RX7 yX7_figure wsX7_figure) := goodIn_app (goodIn_of _ (by decide +kernel)) ggX7_readStuff_X7_figure
theorem dX7_readStuff_0 : decode cX7_readStuff 0 = .ok (.aload_n 0, 1) := by decide +kernel
theorem dX7_readStuff_1 : decode cX7_readStuff 1 = .ok (.iconst 0, 1) := by decide +kernel
theorem dX7_readStuff_2 : decode cX7_readStuff 2 = .ok (.bipush 9, 2) := by decide +kernel
theorem dX7_readStuff_4 : decode cX7_readStuff 4 = .ok (.invokevirtual 93, 3) := by decide +kernel
theorem dX7_readStuff_7 : decode cX7_readStuff 7 = .ok (.istore_n 1, 1) := by decide +kernel
theorem dX7_readStuff_8 : decode cX7_readStuff 8 = .ok (.iload_n 1, 1) := by decide +kernel
theorem dX7_readStuff_9 : decode cX7_readStuff 9 = .ok (.bipush (-9), 2) := by decide +kernel
theorem dX7_readStuff_11 : decode cX7_readStuff 11 = .ok (.if_icmp .ne 8, 3) := by decide +kernel
theorem dX7_readStuff_14 : decode cX7_readStuff 14 = .ok (.bipush (-9), 2) := by decide +kernel
theorem dX7_readStuff_16 : decode cX7_readStuff 16 = .ok (.goto 10, 3) := by decide +kernel
theorem dX7_readStuff_19 : decode cX7_readStuff 19 = .ok (.aload_n 0, 1) := by decide +kernel
theorem dX7_readStuff_20 : decode cX7_readStuff 20 = .ok (.iconst 1, 1) := by decide +kernel
theorem dX7_readStuff_21 : decode cX7_readStuff 21 = .ok (.bipush 9, 2) := by decide +kernel
theorem dX7_readStuff_23 : decode cX7_readStuff 23 = .ok (.invokevirtual 93, 3) := by decide +kernel
theorem dX7_readStuff_26 : decode cX7_readStuff 26 = .ok (.istore_n 2, 1) := by decide +kernel
theorem dX7_readStuff_27 : decode cX7_readStuff 27 = .ok (.iload_n 2, 1) := by decide +kernel
theorem dX7_readStuff_28 : decode cX7_readStuff 28 = .ok (.bipush (-9), 2) := by decide +kernel
theorem dX7_readStuff_30 : decode cX7_readStuff 30 = .ok (.if_icmp .ne 5, 3) := by decide +kernel
theorem dX7_readStuff_33 : decode cX7_readStuff 33 = .ok (.iconst 0, 1) := by decide +kernel
theorem dX7_readStuff_34 : decode cX7_readStuff 34 = .ok (.ireturn, 1) := by decide +kernel
theorem dX7_readStuff_35 : decode cX7_readStuff 35 = .ok (.aload_n 0, 1) := by decide +kernel
theorem dX7_readStuff_36 : decode cX7_readStuff 36 = .ok (.getfield 37, 3) := by decide +kernel
theorem dX7_readStuff_39 : decode cX7_readStuff 39 = .ok (.iconst 2, 1) := by decide +kernel
theorem dX7_readStuff_40 : decode cX7_readStuff 40 = .ok (.aload_n 0, 1) := by decide +kernel
theorem dX7_readStuff_41 : decode cX7_readStuff 41 = .ok (.getfield 101, 3) := by decide +kernel
theorem dX7_readStuff_44 : decode cX7_readStuff 44 = .ok (.imul, 1) := by decide +kernel
theorem dX7_readStuff_45 : decode cX7_readStuff 45 = .ok (.iload_n 1, 1) := by decide +kernel
theorem dX7_readStuff_46 : decode cX7_readStuff 46 = .ok (.iastore, 1) := by decide +kernel
theorem dX7_readStuff_47 : decode cX7_readStuff 47 = .ok (.aload_n 0, 1) := by decide +kernel
theorem dX7_readStuff_48 : decode cX7_readStuff 48 = .ok (.getfield 37, 3) := by decide +kernel
theorem dX7_readStuff_51 : decode cX7_readStuff 51 = .ok (.iconst 2, 1) := by decide +kernel
theorem dX7_readStuff_52 : decode cX7_readStuff 52 = .ok (.aload_n 0, 1) := by decide +kernel
theorem dX7_readStuff_53 : decode cX7_readStuff 53 = .ok (.getfield 101, 3) := by decide +kernel
theorem dX7_readStuff_56 : decode cX7_readStuff 56 = .ok (.imul, 1) := by decide +kernel
theorem dX7_readStuff_57 : decode cX7_readStuff 57 = .ok (.iconst 1, 1) := by decide +kernel
theorem dX7_readStuff_58 : decode cX7_readStuff 58 = .ok (.iadd, 1) := by decide +kernel
theorem dX7_readStuff_59 : decode cX7_readStuff 59 = .ok (.iload_n 2, 1) := by decide +kernel
theorem dX7_readStuff_60 : decode cX7_readStuff 60 = .ok (.iastore, 1) := by decide +kernel
theorem dX7_readStuff_61 : decode cX7_readStuff 61 = .ok (.aload_n 0, 1) := by decide +kernel
theorem dX7_readStuff_62 : decode cX7_readStuff 62 = .ok (.dup, 1) := by decide +kernel
theorem dX7_readStuff_63 : decode cX7_readStuff 63 = .ok (.getfield 101, 3) := by decide +kernel
theorem dX7_readStuff_66 : decode cX7_readStuff 66 = .ok (.iconst 1, 1) := by decide +kernel
theorem dX7_readStuff_67 : decode cX7_readStuff 67 = .ok (.iadd, 1) := by decide +kernel
theorem dX7_readStuff_68 : decode cX7_readStuff 68 = .ok (.putfield 101, 3) := by decide +kernel
theorem dX7_readStuff_71 : decode cX7_readStuff 71 = .ok (.iconst 1, 1) := by decide +kernel
theorem dX7_readStuff_72 : decode cX7_readStuff 72 = .ok (.ireturn, 1) := by decide +kernel
set_option maxRecDepth 20000 in
theorem ggX7_readPart_X7_readRing : GoodIn wsX7_readPart wsX7_readRing := goodIn_r _ [9, 2, 10, 1, 3, 11, 12, 13, 14, 8, 15, 16, 17, 18, 19, 20, 21, 22, 28, 29, 30, 31, 32, 33, 34, 35, 36, 37, 38, 39, 40, 41, 42, 43, 44, 45, 46, 47, 48, 49, 50, 51, 52, 53, 54, 55, 56, 57, 58, 59, 60, 61, 62, 63, 64, 65, 66, 67] (by decide +kernel) (by decide +kernel)
set_option maxRecDepth 20000 in
theorem gX7_readPart_X7_readRing : GoodIn wsX7_readPart (wsV RX7 104 RX7 yX7_readRing wsX7_readRing) := goodIn_app (goodIn_of _ (by decide +kernel)) ggX7_readPart_X7_readRing
set_option maxRecDepth 20000 in
theorem ggX7_readPart_X7_readStuff : GoodIn wsX7_readPart wsX7_readStuff := goodIn_r _ [26, 27, 4, 12, 13, 14, 8, 15, 2, 10, 1, 16, 17, 18, 28, 29, 30, 31, 32, 33, 34, 35, 36, 37, 38, 39, 40, 41, 42, 43, 44, 45, 46, 47, 48, 49, 50, 51, 52, 53, 54, 55, 56, 57, 58, 59, 60, 61, 62, 63, 64, 65, 66, 67] (by decide +kernel) (by decide +kernel)
set_option maxRecDepth 20000 in
theorem gX7_readPart_X7_readStuff : GoodIn wsX7_readPart (wsV RX7 107 RX7 yX7_readStuff wsX7_readStuff) := goodIn_app (goodIn_of _ (by decide +kernel)) ggX7_readPart_X7_readStuff
theorem dX7_readPart_0 : decode cX7_readPart 0 = .ok (.aload_n 0, 1) := by decide +kernel
theorem dX7_readPart_1 : decode cX7_readPart 1 = .ok (.getfield 7, 3) := by decide +kernel
theorem dX7_readPart_4 : decode cX7_readPart 4 = .ok (.aload_n 0, 1) := by decide +kernel
theorem dX7_readPart_5 : decode cX7_readPart 5 = .ok (.getfield 87, 3) := by decide +kernel
theorem dX7_readPart_8 : decode cX7_readPart 8 = .ok (.iaload, 1) := by decide +kernel
theorem dX7_readPart_9 : decode cX7_readPart 9 = .ok (.istore_n 1, 1) := by decide +kernel
theorem dX7_readPart_10 : decode cX7_readPart 10 = .ok (.iload_n 1, 1) := by decide +kernel
theorem dX7_readPart_11 : decode cX7_readPart 11 = .ok (.bipush 71, 2) := by decide +kernel
theorem dX7_readPart_13 : decode cX7_readPart 13 = .ok (.if_icmp .ne 27, 3) := by decide +kernel
theorem dX7_readPart_16 : decode cX7_readPart 16 = .ok (.aload_n 0, 1) := by decide +kernel
theorem dX7_readPart_17 : decode cX7_readPart 17 = .ok (.getfield 90, 3) := by decide +kernel
theorem dX7_readPart_20 : decode cX7_readPart 20 = .ok (.bipush 8, 2) := by decide +kernel
theorem dX7_readPart_22 : decode cX7_readPart 22 = .ok (.if_icmp .ge 18, 3) := by decide +kernel
theorem dX7_readPart_25 : decode cX7_readPart 25 = .ok (.aload_n 0, 1) := by decide +kernel
theorem dX7_readPart_26 : decode cX7_readPart 26 = .ok (.dup, 1) := by decide +kernel
theorem dX7_readPart_27 : decode cX7_readPart 27 = .ok (.getfield 87, 3) := by decide +kernel
theorem dX7_readPart_30 : decode cX7_readPart 30 = .ok (.iconst 1, 1) := by decide +kernel
theorem dX7_readPart_31 : decode cX7_readPart 31 = .ok (.iadd, 1) := by decide +kernel
theorem dX7_readPart_32 : decode cX7_readPart 32 = .ok (.putfield 87, 3) := by decide +kernel
theorem dX7_readPart_35 : decode cX7_readPart 35 = .ok (.aload_n 0, 1) := by decide +kernel
theorem dX7_readPart_36 : decode cX7_readPart 36 = .ok (.invokevirtual 104, 3) := by decide +kernel
theorem dX7_readPart_39 : decode cX7_readPart 39 = .ok (.ireturn, 1) := by decide +kernel
theorem dX7_readPart_40 : decode cX7_readPart 40 = .ok (.iload_n 1, 1) := by decide +kernel
theorem dX7_readPart_41 : decode cX7_readPart 41 = .ok (.bipush 83, 2) := by decide +kernel
theorem dX7_readPart_43 : decode cX7_readPart 43 = .ok (.if_icmp .ne 26, 3) := by decide +kernel
theorem dX7_readPart_46 : decode cX7_readPart 46 = .ok (.aload_n 0, 1) := by decide +kernel
theorem dX7_readPart_47 : decode cX7_readPart 47 = .ok (.getfield 101, 3) := by decide +kernel
theorem dX7_readPart_50 : decode cX7_readPart 50 = .ok (.iconst 5, 1) := by decide +kernel
theorem dX7_readPart_51 : decode cX7_readPart 51 = .ok (.if_icmp .ge 18, 3) := by decide +kernel
theorem dX7_readPart_54 : decode cX7_readPart 54 = .ok (.aload_n 0, 1) := by decide +kernel
theorem dX7_readPart_55 : decode cX7_readPart 55 = .ok (.dup, 1) := by decide +kernel
theorem dX7_readPart_56 : decode cX7_readPart 56 = .ok (.getfield 87, 3) := by decide +kernel
theorem dX7_readPart_59 : decode cX7_readPart 59 = .ok (.iconst 1, 1) := by decide +kernel
theorem dX7_readPart_60 : decode cX7_readPart 60 = .ok (.iadd, 1) := by decide +kernel
theorem dX7_readPart_61 : decode cX7_readPart 61 = .ok (.putfield 87, 3) := by decide +kernel
theorem dX7_readPart_64 : decode cX7_readPart 64 = .ok (.aload_n 0, 1) := by decide +kernel
theorem dX7_readPart_65 : decode cX7_readPart 65 = .ok (.invokevirtual 107, 3) := by decide +kernel
theorem dX7_readPart_68 : decode cX7_readPart 68 = .ok (.ireturn, 1) := by decide +kernel
theorem dX7_readPart_69 : decode cX7_readPart 69 = .ok (.iconst 0, 1) := by decide +kernel
theorem dX7_readPart_70 : decode cX7_readPart 70 = .ok (.ireturn, 1) := by decide +kernel
set_option maxRecDepth 20000 in
theorem ggX7_readRoom_X7_figure : GoodIn wsX7_readRoom wsX7_figure := goodIn_r _ [12, 1, 4, 5, 13, 14, 11, 15, 34, 35, 36, 37, 38, 39, 40, 41, 42, 43, 44, 45, 46, 47, 48, 49, 50, 51, 52, 53, 54, 55, 56, 57, 58, 59, 60, 61, 62, 63, 64, 65, 66, 67, 68, 69, 70, 71, 72, 73] (by decide +kernel) (by decide +kernel)
set_option maxRecDepth 20000 in
theorem gX7_readRoom_X7_figure : GoodIn wsX7_readRoom (wsV RX7 93 RX7 yX7_figure wsX7_figure) := goodIn_app (goodIn_of _ (by decide +kernel)) ggX7_readRoom_X7_figure
set_option maxRecDepth 20000 in
theorem ggX7_readRoom_X7_readPart : GoodIn wsX7_readRoom wsX7_readPart := goodIn_r _ [19, 5, 1, 2, 3, 20, 21, 22, 11, 23, 4, 24, 8, 9, 10, 12, 13, 14, 15, 25, 26, 27, 28, 29, 30, 31, 32, 33, 34, 35, 36, 37, 38, 39, 40, 41, 42, 43, 44, 45, 46, 47, 48, 49, 50, 51, 52, 53, 54, 55, 56, 57, 58, 59, 60, 61, 62, 63, 64, 65, 66, 67, 68, 69, 70, 71, 72, 73] (by decide +kernel) (by decide +kernel)
set_option maxRecDepth 20000 in
theorem gX7_readRoom_X7_readPart : GoodIn wsX7_readRoom (wsV RX7 115 RX7 yX7_readPart wsX7_readPart) := goodIn_app (goodIn_of _ (by decide +kernel)) ggX7_readRoom_X7_readPart
theorem dX7_readRoom_0 : decode cX7_readRoom 0 = .ok (.aload_n 0, 1) := by decide +kernel
theorem dX7_readRoom_1 : decode cX7_readRoom 1 = .ok (.iconst 0, 1) := by decide +kernel
theorem dX7_readRoom_2 : decode cX7_readRoom 2 = .ok (.putfield 87, 3) := by decide +kernel
theorem dX7_readRoom_5 : decode cX7_readRoom 5 = .ok (.aload_n 0, 1) := by decide +kernel
theorem dX7_readRoom_6 : decode cX7_readRoom 6 = .ok (.iconst 0, 1) := by decide +kernel
theorem dX7_readRoom_7 : decode cX7_readRoom 7 = .ok (.putfield 90, 3) := by decide +kernel
theorem dX7_readRoom_10 : decode cX7_readRoom 10 = .ok (.aload_n 0, 1) := by decide +kernel
theorem dX7_readRoom_11 : decode cX7_readRoom 11 = .ok (.iconst 0, 1) := by decide +kernel
theorem dX7_readRoom_12 : decode cX7_readRoom 12 = .ok (.putfield 101, 3) := by decide +kernel
theorem dX7_readRoom_15 : decode cX7_readRoom 15 = .ok (.aload_n 0, 1) := by decide +kernel
theorem dX7_readRoom_16 : decode cX7_readRoom 16 = .ok (.getfield 84, 3) := by decide +kernel
theorem dX7_readRoom_19 : decode cX7_readRoom 19 = .ok (.ifCond .eq 14, 3) := by decide +kernel
theorem dX7_readRoom_22 : decode cX7_readRoom 22 = .ok (.aload_n 0, 1) := by decide +kernel
theorem dX7_readRoom_23 : decode cX7_readRoom 23 = .ok (.getfield 7, 3) := by decide +kernel
theorem dX7_readRoom_26 : decode cX7_readRoom 26 = .ok (.iconst 0, 1) := by decide +kernel
theorem dX7_readRoom_27 : decode cX7_readRoom 27 = .ok (.iaload, 1) := by decide +kernel
theorem dX7_readRoom_28 : decode cX7_readRoom 28 = .ok (.bipush 82, 2) := by decide +kernel
theorem dX7_readRoom_30 : decode cX7_readRoom 30 = .ok (.if_icmp .eq 5, 3) := by decide +kernel
theorem dX7_readRoom_33 : decode cX7_readRoom 33 = .ok (.iconst 0, 1) := by decide +kernel
theorem dX7_readRoom_34 : decode cX7_readRoom 34 = .ok (.ireturn, 1) := by decide +kernel
theorem dX7_readRoom_35 : decode cX7_readRoom 35 = .ok (.aload_n 0, 1) := by decide +kernel
theorem dX7_readRoom_36 : decode cX7_readRoom 36 = .ok (.iconst 1, 1) := by decide +kernel
theorem dX7_readRoom_37 : decode cX7_readRoom 37 = .ok (.putfield 87, 3) := by decide +kernel
theorem dX7_readRoom_40 : decode cX7_readRoom 40 = .ok (.aload_n 0, 1) := by decide +kernel
theorem dX7_readRoom_41 : decode cX7_readRoom 41 = .ok (.aload_n 0, 1) := by decide +kernel
theorem dX7_readRoom_42 : decode cX7_readRoom 42 = .ok (.iconst 0, 1) := by decide +kernel
theorem dX7_readRoom_43 : decode cX7_readRoom 43 = .ok (.bipush 9, 2) := by decide +kernel
theorem dX7_readRoom_45 : decode cX7_readRoom 45 = .ok (.invokevirtual 93, 3) := by decide +kernel
theorem dX7_readRoom_48 : decode cX7_readRoom 48 = .ok (.putfield 109, 3) := by decide +kernel
theorem dX7_readRoom_51 : decode cX7_readRoom 51 = .ok (.aload_n 0, 1) := by decide +kernel
theorem dX7_readRoom_52 : decode cX7_readRoom 52 = .ok (.aload_n 0, 1) := by decide +kernel
theorem dX7_readRoom_53 : decode cX7_readRoom 53 = .ok (.getfield 109, 3) := by decide +kernel
theorem dX7_readRoom_56 : decode cX7_readRoom 56 = .ok (.bipush (-9), 2) := by decide +kernel
theorem dX7_readRoom_58 : decode cX7_readRoom 58 = .ok (.if_icmp .ne 8, 3) := by decide +kernel
theorem dX7_readRoom_61 : decode cX7_readRoom 61 = .ok (.bipush (-9), 2) := by decide +kernel
theorem dX7_readRoom_63 : decode cX7_readRoom 63 = .ok (.goto 10, 3) := by decide +kernel
theorem dX7_readRoom_66 : decode cX7_readRoom 66 = .ok (.aload_n 0, 1) := by decide +kernel
theorem dX7_readRoom_67 : decode cX7_readRoom 67 = .ok (.iconst 0, 1) := by decide +kernel
theorem dX7_readRoom_68 : decode cX7_readRoom 68 = .ok (.bipush 9, 2) := by decide +kernel
theorem dX7_readRoom_70 : decode cX7_readRoom 70 = .ok (.invokevirtual 93, 3) := by decide +kernel
theorem dX7_readRoom_73 : decode cX7_readRoom 73 = .ok (.putfield 112, 3) := by decide +kernel
theorem dX7_readRoom_76 : decode cX7_readRoom 76 = .ok (.aload_n 0, 1) := by decide +kernel
theorem dX7_readRoom_77 : decode cX7_readRoom 77 = .ok (.getfield 112, 3) := by decide +kernel
theorem dX7_readRoom_80 : decode cX7_readRoom 80 = .ok (.bipush (-9), 2) := by decide +kernel
theorem dX7_readRoom_82 : decode cX7_readRoom 82 = .ok (.if_icmp .ne 8, 3) := by decide +kernel
theorem dX7_readRoom_85 : decode cX7_readRoom 85 = .ok (.aload_n 0, 1) := by decide +kernel
theorem dX7_readRoom_86 : decode cX7_readRoom 86 = .ok (.getfield 87, 3) := by decide +kernel
theorem dX7_readRoom_89 : decode cX7_readRoom 89 = .ok (.ireturn, 1) := by decide +kernel
theorem dX7_readRoom_90 : decode cX7_readRoom 90 = .ok (.aload_n 0, 1) := by decide +kernel
theorem dX7_readRoom_91 : decode cX7_readRoom 91 = .ok (.getfield 87, 3) := by decide +kernel
theorem dX7_readRoom_94 : decode cX7_readRoom 94 = .ok (.aload_n 0, 1) := by decide +kernel
theorem dX7_readRoom_95 : decode cX7_readRoom 95 = .ok (.getfield 84, 3) := by decide +kernel
theorem dX7_readRoom_98 : decode cX7_readRoom 98 = .ok (.if_icmp .ge 15, 3) := by decide +kernel
theorem dX7_readRoom_101 : decode cX7_readRoom 101 = .ok (.aload_n 0, 1) := by decide +kernel
theorem dX7_readRoom_102 : decode cX7_readRoom 102 = .ok (.invokevirtual 115, 3) := by decide +kernel
theorem dX7_readRoom_105 : decode cX7_readRoom 105 = .ok (.ifCond .ne (-15), 3) := by decide +kernel
theorem dX7_readRoom_108 : decode cX7_readRoom 108 = .ok (.aload_n 0, 1) := by decide +kernel
theorem dX7_readRoom_109 : decode cX7_readRoom 109 = .ok (.getfield 87, 3) := by decide +kernel
theorem dX7_readRoom_112 : decode cX7_readRoom 112 = .ok (.ireturn, 1) := by decide +kernel
theorem dX7_readRoom_113 : decode cX7_readRoom 113 = .ok (.bipush (-9), 2) := by decide +kernel
theorem dX7_readRoom_115 : decode cX7_readRoom 115 = .ok (.ireturn, 1) := by decide +kernel
set_option maxRecDepth 20000 in
theorem ggX7_fault_X7_readRoom : GoodIn wsX7_fault wsX7_readRoom := goodIn_r _ [6, 7, 8, 9, 10, 11, 12, 13, 14, 15, 16, 5, 17, 18, 19, 20, 21, 22, 23, 24, 25, 26, 27, 28, 29, 30, 31, 32, 33, 34, 35, 36, 37, 38, 39, 40, 41, 42, 43, 44, 45, 46, 47, 48, 49, 50, 51, 52, 53, 54, 55, 56, 57, 58, 59, 60, 61, 62, 63, 64, 65, 66, 67, 68, 69, 70, 71, 72, 73, 74, 75, 76, 77, 78] (by decide +kernel) (by decide +kernel)
set_option maxRecDepth 20000 in
theorem gX7_fault_X7_readRoom : GoodIn wsX7_fault (wsV RX7 118 RX7 yX7_readRoom wsX7_readRoom) := goodIn_app (goodIn_of _ (by decide +kernel)) ggX7_fault_X7_readRoom
theorem dX7_fault_0 : decode cX7_fault 0 = .ok (.aload_n 0, 1) := by decide +kernel
theorem dX7_fault_1 : decode cX7_fault 1 = .ok (.iconst 0, 1) := by decide +kernel
theorem dX7_fault_2 : decode cX7_fault 2 = .ok (.putfield 71, 3) := by decide +kernel
theorem dX7_fault_5 : decode cX7_fault 5 = .ok (.aload_n 0, 1) := by decide +kernel
theorem dX7_fault_6 : decode cX7_fault 6 = .ok (.invokevirtual 118, 3) := by decide +kernel
theorem dX7_fault_9 : decode cX7_fault 9 = .ok (.ireturn, 1) := by decide +kernel
set_option maxRecDepth 20000 in
theorem ggX7_room_X7_readRoom : GoodIn wsX7_room wsX7_readRoom := goodIn_r _ [26, 27, 2, 4, 28, 29, 6, 8, 30, 31, 32, 25, 33, 34, 35, 36, 37, 38, 39, 40, 41, 42, 43, 44, 12, 45, 46, 47, 48, 49, 50, 51, 52, 18, 53, 54, 55, 56, 57, 58, 59, 60, 61, 62, 63, 64, 65, 66, 67, 68, 69, 70, 71, 72, 73, 74, 75, 76, 77, 78, 79, 80, 81, 82, 83, 84, 85, 86, 87, 88, 89, 90, 91, 92] (by decide +kernel) (by decide +kernel)
set_option maxRecDepth 20000 in
theorem gX7_room_X7_readRoom : GoodIn wsX7_room (wsV RX7 118 RX7 yX7_readRoom wsX7_readRoom) := goodIn_app (goodIn_of _ (by decide +kernel)) ggX7_room_X7_readRoom
theorem dX7_room_0 : decode cX7_room 0 = .ok (.aload_n 0, 1) := by decide +kernel
theorem dX7_room_1 : decode cX7_room 1 = .ok (.iconst 0, 1) := by decide +kernel
theorem dX7_room_2 : decode cX7_room 2 = .ok (.putfield 71, 3) := by decide +kernel
theorem dX7_room_5 : decode cX7_room 5 = .ok (.aload_n 0, 1) := by decide +kernel
theorem dX7_room_6 : decode cX7_room 6 = .ok (.invokevirtual 118, 3) := by decide +kernel
theorem dX7_room_9 : decode cX7_room 9 = .ok (.bipush (-9), 2) := by decide +kernel
theorem dX7_room_11 : decode cX7_room 11 = .ok (.if_icmp .eq 6, 3) := by decide +kernel
theorem dX7_room_14 : decode cX7_room 14 = .ok (.bipush (-3), 2) := by decide +kernel
theorem dX7_room_16 : decode cX7_room 16 = .ok (.ireturn, 1) := by decide +kernel
theorem dX7_room_17 : decode cX7_room 17 = .ok (.aload_n 0, 1) := by decide +kernel
theorem dX7_room_18 : decode cX7_room 18 = .ok (.aload_n 0, 1) := by decide +kernel
theorem dX7_room_19 : decode cX7_room 19 = .ok (.getfield 90, 3) := by decide +kernel
theorem dX7_room_22 : decode cX7_room 22 = .ok (.putfield 75, 3) := by decide +kernel
theorem dX7_room_25 : decode cX7_room 25 = .ok (.aload_n 0, 1) := by decide +kernel
theorem dX7_room_26 : decode cX7_room 26 = .ok (.aload_n 0, 1) := by decide +kernel
theorem dX7_room_27 : decode cX7_room 27 = .ok (.getfield 101, 3) := by decide +kernel
theorem dX7_room_30 : decode cX7_room 30 = .ok (.putfield 122, 3) := by decide +kernel
theorem dX7_room_33 : decode cX7_room 33 = .ok (.aload_n 0, 1) := by decide +kernel
theorem dX7_room_34 : decode cX7_room 34 = .ok (.aload_n 0, 1) := by decide +kernel
theorem dX7_room_35 : decode cX7_room 35 = .ok (.getfield 109, 3) := by decide +kernel
theorem dX7_room_38 : decode cX7_room 38 = .ok (.putfield 125, 3) := by decide +kernel
theorem dX7_room_41 : decode cX7_room 41 = .ok (.aload_n 0, 1) := by decide +kernel
theorem dX7_room_42 : decode cX7_room 42 = .ok (.aload_n 0, 1) := by decide +kernel
theorem dX7_room_43 : decode cX7_room 43 = .ok (.getfield 112, 3) := by decide +kernel
theorem dX7_room_46 : decode cX7_room 46 = .ok (.putfield 128, 3) := by decide +kernel
theorem dX7_room_49 : decode cX7_room 49 = .ok (.aload_n 0, 1) := by decide +kernel
theorem dX7_room_50 : decode cX7_room 50 = .ok (.iconst 0, 1) := by decide +kernel
theorem dX7_room_51 : decode cX7_room 51 = .ok (.putfield 131, 3) := by decide +kernel
theorem dX7_room_54 : decode cX7_room 54 = .ok (.iconst 0, 1) := by decide +kernel
theorem dX7_room_55 : decode cX7_room 55 = .ok (.istore_n 1, 1) := by decide +kernel
theorem dX7_room_56 : decode cX7_room 56 = .ok (.iload_n 1, 1) := by decide +kernel
theorem dX7_room_57 : decode cX7_room 57 = .ok (.aload_n 0, 1) := by decide +kernel
theorem dX7_room_58 : decode cX7_room 58 = .ok (.getfield 75, 3) := by decide +kernel
theorem dX7_room_61 : decode cX7_room 61 = .ok (.if_icmp .ge 87, 3) := by decide +kernel
theorem dX7_room_64 : decode cX7_room 64 = .ok (.aload_n 0, 1) := by decide +kernel
theorem dX7_room_65 : decode cX7_room 65 = .ok (.getfield 13, 3) := by decide +kernel
theorem dX7_room_68 : decode cX7_room 68 = .ok (.iload_n 1, 1) := by decide +kernel
theorem dX7_room_69 : decode cX7_room 69 = .ok (.aload_n 0, 1) := by decide +kernel
theorem dX7_room_70 : decode cX7_room 70 = .ok (.getfield 34, 3) := by decide +kernel
theorem dX7_room_73 : decode cX7_room 73 = .ok (.iconst 5, 1) := by decide +kernel
theorem dX7_room_74 : decode cX7_room 74 = .ok (.iload_n 1, 1) := by decide +kernel
theorem dX7_room_75 : decode cX7_room 75 = .ok (.imul, 1) := by decide +kernel
theorem dX7_room_76 : decode cX7_room 76 = .ok (.iaload, 1) := by decide +kernel
theorem dX7_room_77 : decode cX7_room 77 = .ok (.iastore, 1) := by decide +kernel
theorem dX7_room_78 : decode cX7_room 78 = .ok (.aload_n 0, 1) := by decide +kernel
theorem dX7_room_79 : decode cX7_room 79 = .ok (.getfield 16, 3) := by decide +kernel
theorem dX7_room_82 : decode cX7_room 82 = .ok (.iload_n 1, 1) := by decide +kernel
theorem dX7_room_83 : decode cX7_room 83 = .ok (.aload_n 0, 1) := by decide +kernel
theorem dX7_room_84 : decode cX7_room 84 = .ok (.getfield 34, 3) := by decide +kernel
theorem dX7_room_87 : decode cX7_room 87 = .ok (.iconst 5, 1) := by decide +kernel
theorem dX7_room_88 : decode cX7_room 88 = .ok (.iload_n 1, 1) := by decide +kernel
theorem dX7_room_89 : decode cX7_room 89 = .ok (.imul, 1) := by decide +kernel
theorem dX7_room_90 : decode cX7_room 90 = .ok (.iconst 1, 1) := by decide +kernel
theorem dX7_room_91 : decode cX7_room 91 = .ok (.iadd, 1) := by decide +kernel
theorem dX7_room_92 : decode cX7_room 92 = .ok (.iaload, 1) := by decide +kernel
theorem dX7_room_93 : decode cX7_room 93 = .ok (.iastore, 1) := by decide +kernel
theorem dX7_room_94 : decode cX7_room 94 = .ok (.aload_n 0, 1) := by decide +kernel
theorem dX7_room_95 : decode cX7_room 95 = .ok (.getfield 19, 3) := by decide +kernel
theorem dX7_room_98 : decode cX7_room 98 = .ok (.iload_n 1, 1) := by decide +kernel
theorem dX7_room_99 : decode cX7_room 99 = .ok (.aload_n 0, 1) := by decide +kernel
theorem dX7_room_100 : decode cX7_room 100 = .ok (.getfield 34, 3) := by decide +kernel
theorem dX7_room_103 : decode cX7_room 103 = .ok (.iconst 5, 1) := by decide +kernel
theorem dX7_room_104 : decode cX7_room 104 = .ok (.iload_n 1, 1) := by decide +kernel
theorem dX7_room_105 : decode cX7_room 105 = .ok (.imul, 1) := by decide +kernel
theorem dX7_room_106 : decode cX7_room 106 = .ok (.iconst 2, 1) := by decide +kernel
theorem dX7_room_107 : decode cX7_room 107 = .ok (.iadd, 1) := by decide +kernel
theorem dX7_room_108 : decode cX7_room 108 = .ok (.iaload, 1) := by decide +kernel
theorem dX7_room_109 : decode cX7_room 109 = .ok (.iastore, 1) := by decide +kernel
theorem dX7_room_110 : decode cX7_room 110 = .ok (.aload_n 0, 1) := by decide +kernel
theorem dX7_room_111 : decode cX7_room 111 = .ok (.getfield 22, 3) := by decide +kernel
theorem dX7_room_114 : decode cX7_room 114 = .ok (.iload_n 1, 1) := by decide +kernel
theorem dX7_room_115 : decode cX7_room 115 = .ok (.aload_n 0, 1) := by decide +kernel
theorem dX7_room_116 : decode cX7_room 116 = .ok (.getfield 34, 3) := by decide +kernel
theorem dX7_room_119 : decode cX7_room 119 = .ok (.iconst 5, 1) := by decide +kernel
theorem dX7_room_120 : decode cX7_room 120 = .ok (.iload_n 1, 1) := by decide +kernel
theorem dX7_room_121 : decode cX7_room 121 = .ok (.imul, 1) := by decide +kernel
theorem dX7_room_122 : decode cX7_room 122 = .ok (.iconst 3, 1) := by decide +kernel
theorem dX7_room_123 : decode cX7_room 123 = .ok (.iadd, 1) := by decide +kernel
theorem dX7_room_124 : decode cX7_room 124 = .ok (.iaload, 1) := by decide +kernel
theorem dX7_room_125 : decode cX7_room 125 = .ok (.iastore, 1) := by decide +kernel
theorem dX7_room_126 : decode cX7_room 126 = .ok (.aload_n 0, 1) := by decide +kernel
theorem dX7_room_127 : decode cX7_room 127 = .ok (.getfield 25, 3) := by decide +kernel
theorem dX7_room_130 : decode cX7_room 130 = .ok (.iload_n 1, 1) := by decide +kernel
theorem dX7_room_131 : decode cX7_room 131 = .ok (.aload_n 0, 1) := by decide +kernel
theorem dX7_room_132 : decode cX7_room 132 = .ok (.getfield 34, 3) := by decide +kernel
theorem dX7_room_135 : decode cX7_room 135 = .ok (.iconst 5, 1) := by decide +kernel
theorem dX7_room_136 : decode cX7_room 136 = .ok (.iload_n 1, 1) := by decide +kernel
theorem dX7_room_137 : decode cX7_room 137 = .ok (.imul, 1) := by decide +kernel
theorem dX7_room_138 : decode cX7_room 138 = .ok (.iconst 4, 1) := by decide +kernel
theorem dX7_room_139 : decode cX7_room 139 = .ok (.iadd, 1) := by decide +kernel
theorem dX7_room_140 : decode cX7_room 140 = .ok (.iaload, 1) := by decide +kernel
theorem dX7_room_141 : decode cX7_room 141 = .ok (.iastore, 1) := by decide +kernel
theorem dX7_room_142 : decode cX7_room 142 = .ok (.iinc 1 1, 3) := by decide +kernel
theorem dX7_room_145 : decode cX7_room 145 = .ok (.goto (-89), 3) := by decide +kernel
theorem dX7_room_148 : decode cX7_room 148 = .ok (.iconst 0, 1) := by decide +kernel
theorem dX7_room_149 : decode cX7_room 149 = .ok (.istore_n 1, 1) := by decide +kernel
theorem dX7_room_150 : decode cX7_room 150 = .ok (.iload_n 1, 1) := by decide +kernel
theorem dX7_room_151 : decode cX7_room 151 = .ok (.aload_n 0, 1) := by decide +kernel
theorem dX7_room_152 : decode cX7_room 152 = .ok (.getfield 122, 3) := by decide +kernel
theorem dX7_room_155 : decode cX7_room 155 = .ok (.if_icmp .ge 39, 3) := by decide +kernel
theorem dX7_room_158 : decode cX7_room 158 = .ok (.aload_n 0, 1) := by decide +kernel
theorem dX7_room_159 : decode cX7_room 159 = .ok (.getfield 28, 3) := by decide +kernel
theorem dX7_room_162 : decode cX7_room 162 = .ok (.iload_n 1, 1) := by decide +kernel
theorem dX7_room_163 : decode cX7_room 163 = .ok (.aload_n 0, 1) := by decide +kernel
theorem dX7_room_164 : decode cX7_room 164 = .ok (.getfield 37, 3) := by decide +kernel
theorem dX7_room_167 : decode cX7_room 167 = .ok (.iconst 2, 1) := by decide +kernel
theorem dX7_room_168 : decode cX7_room 168 = .ok (.iload_n 1, 1) := by decide +kernel
theorem dX7_room_169 : decode cX7_room 169 = .ok (.imul, 1) := by decide +kernel
theorem dX7_room_170 : decode cX7_room 170 = .ok (.iaload, 1) := by decide +kernel
theorem dX7_room_171 : decode cX7_room 171 = .ok (.iastore, 1) := by decide +kernel
theorem dX7_room_172 : decode cX7_room 172 = .ok (.aload_n 0, 1) := by decide +kernel
theorem dX7_room_173 : decode cX7_room 173 = .ok (.getfield 31, 3) := by decide +kernel
theorem dX7_room_176 : decode cX7_room 176 = .ok (.iload_n 1, 1) := by decide +kernel
theorem dX7_room_177 : decode cX7_room 177 = .ok (.aload_n 0, 1) := by decide +kernel
theorem dX7_room_178 : decode cX7_room 178 = .ok (.getfield 37, 3) := by decide +kernel
theorem dX7_room_181 : decode cX7_room 181 = .ok (.iconst 2, 1) := by decide +kernel
theorem dX7_room_182 : decode cX7_room 182 = .ok (.iload_n 1, 1) := by decide +kernel
theorem dX7_room_183 : decode cX7_room 183 = .ok (.imul, 1) := by decide +kernel
theorem dX7_room_184 : decode cX7_room 184 = .ok (.iconst 1, 1) := by decide +kernel
theorem dX7_room_185 : decode cX7_room 185 = .ok (.iadd, 1) := by decide +kernel
theorem dX7_room_186 : decode cX7_room 186 = .ok (.iaload, 1) := by decide +kernel
theorem dX7_room_187 : decode cX7_room 187 = .ok (.iastore, 1) := by decide +kernel
theorem dX7_room_188 : decode cX7_room 188 = .ok (.iinc 1 1, 3) := by decide +kernel
theorem dX7_room_191 : decode cX7_room 191 = .ok (.goto (-41), 3) := by decide +kernel
theorem dX7_room_194 : decode cX7_room 194 = .ok (.aload_n 0, 1) := by decide +kernel
theorem dX7_room_195 : decode cX7_room 195 = .ok (.iconst 0, 1) := by decide +kernel
theorem dX7_room_196 : decode cX7_room 196 = .ok (.putfield 135, 3) := by decide +kernel
theorem dX7_room_199 : decode cX7_room 199 = .ok (.aload_n 0, 1) := by decide +kernel
theorem dX7_room_200 : decode cX7_room 200 = .ok (.getfield 46, 3) := by decide +kernel
theorem dX7_room_203 : decode cX7_room 203 = .ok (.iconst 0, 1) := by decide +kernel
theorem dX7_room_204 : decode cX7_room 204 = .ok (.iconst 0, 1) := by decide +kernel
theorem dX7_room_205 : decode cX7_room 205 = .ok (.bastore, 1) := by decide +kernel
theorem dX7_room_206 : decode cX7_room 206 = .ok (.aload_n 0, 1) := by decide +kernel
theorem dX7_room_207 : decode cX7_room 207 = .ok (.getfield 46, 3) := by decide +kernel
theorem dX7_room_210 : decode cX7_room 210 = .ok (.iconst 1, 1) := by decide +kernel
theorem dX7_room_211 : decode cX7_room 211 = .ok (.iconst 0, 1) := by decide +kernel
theorem dX7_room_212 : decode cX7_room 212 = .ok (.bastore, 1) := by decide +kernel
theorem dX7_room_213 : decode cX7_room 213 = .ok (.aload_n 0, 1) := by decide +kernel
theorem dX7_room_214 : decode cX7_room 214 = .ok (.getfield 75, 3) := by decide +kernel
theorem dX7_room_217 : decode cX7_room 217 = .ok (.ireturn, 1) := by decide +kernel
theorem dX7_begin_0 : decode cX7_begin 0 = .ok (.iconst 0, 1) := by decide +kernel
theorem dX7_begin_1 : decode cX7_begin 1 = .ok (.istore_n 1, 1) := by decide +kernel
theorem dX7_begin_2 : decode cX7_begin 2 = .ok (.iload_n 1, 1) := by decide +kernel
theorem dX7_begin_3 : decode cX7_begin 3 = .ok (.aload_n 0, 1) := by decide +kernel
theorem dX7_begin_4 : decode cX7_begin 4 = .ok (.getfield 75, 3) := by decide +kernel
theorem dX7_begin_7 : decode cX7_begin 7 = .ok (.if_icmp .ge 21, 3) := by decide +kernel
theorem dX7_begin_10 : decode cX7_begin 10 = .ok (.aload_n 0, 1) := by decide +kernel
theorem dX7_begin_11 : decode cX7_begin 11 = .ok (.getfield 56, 3) := by decide +kernel
theorem dX7_begin_14 : decode cX7_begin 14 = .ok (.iload_n 1, 1) := by decide +kernel
theorem dX7_begin_15 : decode cX7_begin 15 = .ok (.aload_n 0, 1) := by decide +kernel
theorem dX7_begin_16 : decode cX7_begin 16 = .ok (.getfield 22, 3) := by decide +kernel
theorem dX7_begin_19 : decode cX7_begin 19 = .ok (.iload_n 1, 1) := by decide +kernel
theorem dX7_begin_20 : decode cX7_begin 20 = .ok (.iaload, 1) := by decide +kernel
theorem dX7_begin_21 : decode cX7_begin 21 = .ok (.iastore, 1) := by decide +kernel
theorem dX7_begin_22 : decode cX7_begin 22 = .ok (.iinc 1 1, 3) := by decide +kernel
theorem dX7_begin_25 : decode cX7_begin 25 = .ok (.goto (-23), 3) := by decide +kernel
theorem dX7_begin_28 : decode cX7_begin 28 = .ok (.aload_n 0, 1) := by decide +kernel
theorem dX7_begin_29 : decode cX7_begin 29 = .ok (.aload_n 0, 1) := by decide +kernel
theorem dX7_begin_30 : decode cX7_begin 30 = .ok (.getfield 128, 3) := by decide +kernel
theorem dX7_begin_33 : decode cX7_begin 33 = .ok (.putfield 138, 3) := by decide +kernel
theorem dX7_begin_36 : decode cX7_begin 36 = .ok (.aload_n 0, 1) := by decide +kernel
theorem dX7_begin_37 : decode cX7_begin 37 = .ok (.aload_n 0, 1) := by decide +kernel
theorem dX7_begin_38 : decode cX7_begin 38 = .ok (.getfield 75, 3) := by decide +kernel
theorem dX7_begin_41 : decode cX7_begin 41 = .ok (.putfield 141, 3) := by decide +kernel
theorem dX7_begin_44 : decode cX7_begin 44 = .ok (.aload_n 0, 1) := by decide +kernel
theorem dX7_begin_45 : decode cX7_begin 45 = .ok (.aload_n 0, 1) := by decide +kernel
theorem dX7_begin_46 : decode cX7_begin 46 = .ok (.getfield 125, 3) := by decide +kernel
theorem dX7_begin_49 : decode cX7_begin 49 = .ok (.putfield 144, 3) := by decide +kernel
theorem dX7_begin_52 : decode cX7_begin 52 = .ok (.aload_n 0, 1) := by decide +kernel
theorem dX7_begin_53 : decode cX7_begin 53 = .ok (.sipush 255, 3) := by decide +kernel
theorem dX7_begin_56 : decode cX7_begin 56 = .ok (.putfield 147, 3) := by decide +kernel
theorem dX7_begin_59 : decode cX7_begin 59 = .ok (.aload_n 0, 1) := by decide +kernel
theorem dX7_begin_60 : decode cX7_begin 60 = .ok (.aload_n 0, 1) := by decide +kernel
theorem dX7_begin_61 : decode cX7_begin 61 = .ok (.getfield 131, 3) := by decide +kernel
theorem dX7_begin_64 : decode cX7_begin 64 = .ok (.putfield 150, 3) := by decide +kernel
theorem dX7_begin_67 : decode cX7_begin 67 = .ok (.return_, 1) := by decide +kernel
set_option maxRecDepth 20000 in
theorem ggX7_loudOf_X7_has : GoodIn wsX7_loudOf wsX7_has := goodIn_r _ [7] (by decide +kernel) (by decide +kernel)
set_option maxRecDepth 20000 in
theorem gX7_loudOf_X7_has : GoodIn wsX7_loudOf (va_wsS RX7 153 yX7_has wsX7_has) := goodIn_app (goodIn_of _ (by decide +kernel)) ggX7_loudOf_X7_has
theorem dX7_loudOf_0 : decode cX7_loudOf 0 = .ok (.aload_n 0, 1) := by decide +kernel
theorem dX7_loudOf_1 : decode cX7_loudOf 1 = .ok (.getfield 19, 3) := by decide +kernel
theorem dX7_loudOf_4 : decode cX7_loudOf 4 = .ok (.iload_n 1, 1) := by decide +kernel
theorem dX7_loudOf_5 : decode cX7_loudOf 5 = .ok (.iaload, 1) := by decide +kernel
theorem dX7_loudOf_6 : decode cX7_loudOf 6 = .ok (.iconst 1, 1) := by decide +kernel
theorem dX7_loudOf_7 : decode cX7_loudOf 7 = .ok (.if_icmp .le 25, 3) := by decide +kernel
theorem dX7_loudOf_10 : decode cX7_loudOf 10 = .ok (.aload_n 0, 1) := by decide +kernel
theorem dX7_loudOf_11 : decode cX7_loudOf 11 = .ok (.getfield 147, 3) := by decide +kernel
theorem dX7_loudOf_14 : decode cX7_loudOf 14 = .ok (.iload_n 1, 1) := by decide +kernel
theorem dX7_loudOf_15 : decode cX7_loudOf 15 = .ok (.invokestatic 153, 3) := by decide +kernel
theorem dX7_loudOf_18 : decode cX7_loudOf 18 = .ok (.ifCond .eq 14, 3) := by decide +kernel
theorem dX7_loudOf_21 : decode cX7_loudOf 21 = .ok (.iconst 1, 1) := by decide +kernel
theorem dX7_loudOf_22 : decode cX7_loudOf 22 = .ok (.aload_n 0, 1) := by decide +kernel
theorem dX7_loudOf_23 : decode cX7_loudOf 23 = .ok (.getfield 56, 3) := by decide +kernel
theorem dX7_loudOf_26 : decode cX7_loudOf 26 = .ok (.iload_n 1, 1) := by decide +kernel
theorem dX7_loudOf_27 : decode cX7_loudOf 27 = .ok (.iaload, 1) := by decide +kernel
theorem dX7_loudOf_28 : decode cX7_loudOf 28 = .ok (.ishl, 1) := by decide +kernel
theorem dX7_loudOf_29 : decode cX7_loudOf 29 = .ok (.goto 4, 3) := by decide +kernel
theorem dX7_loudOf_32 : decode cX7_loudOf 32 = .ok (.iconst 0, 1) := by decide +kernel
theorem dX7_loudOf_33 : decode cX7_loudOf 33 = .ok (.ireturn, 1) := by decide +kernel
theorem dX7_loudMusic_0 : decode cX7_loudMusic 0 = .ok (.aload_n 0, 1) := by decide +kernel
theorem dX7_loudMusic_1 : decode cX7_loudMusic 1 = .ok (.getfield 138, 3) := by decide +kernel
theorem dX7_loudMusic_4 : decode cX7_loudMusic 4 = .ok (.ifCond .ne 7, 3) := by decide +kernel
theorem dX7_loudMusic_7 : decode cX7_loudMusic 7 = .ok (.iconst 0, 1) := by decide +kernel
theorem dX7_loudMusic_8 : decode cX7_loudMusic 8 = .ok (.goto 9, 3) := by decide +kernel
theorem dX7_loudMusic_11 : decode cX7_loudMusic 11 = .ok (.iconst 1, 1) := by decide +kernel
theorem dX7_loudMusic_12 : decode cX7_loudMusic 12 = .ok (.aload_n 0, 1) := by decide +kernel
theorem dX7_loudMusic_13 : decode cX7_loudMusic 13 = .ok (.getfield 138, 3) := by decide +kernel
theorem dX7_loudMusic_16 : decode cX7_loudMusic 16 = .ok (.ishl, 1) := by decide +kernel
theorem dX7_loudMusic_17 : decode cX7_loudMusic 17 = .ok (.ireturn, 1) := by decide +kernel
set_option maxRecDepth 20000 in
theorem ggX7_loudAll_X7_loudOf : GoodIn wsX7_loudAll wsX7_loudOf := goodIn_r _ [6, 7, 8, 9, 10, 11, 5, 12, 13, 14, 15, 16, 17, 18, 19, 20, 21, 22, 23, 24, 25, 26, 27, 28, 29, 30, 31, 32, 33, 34, 35, 36, 37, 38, 39, 40, 41, 42, 43, 44, 45, 46, 47, 48, 49, 50, 51, 52] (by decide +kernel) (by decide +kernel)
set_option maxRecDepth 20000 in
theorem gX7_loudAll_X7_loudOf : GoodIn wsX7_loudAll (wsV RX7 157 RX7 yX7_loudOf wsX7_loudOf) := goodIn_app (goodIn_of _ (by decide +kernel)) ggX7_loudAll_X7_loudOf
theorem dX7_loudAll_0 : decode cX7_loudAll 0 = .ok (.iconst 0, 1) := by decide +kernel
theorem dX7_loudAll_1 : decode cX7_loudAll 1 = .ok (.istore_n 1, 1) := by decide +kernel
theorem dX7_loudAll_2 : decode cX7_loudAll 2 = .ok (.iconst 0, 1) := by decide +kernel
theorem dX7_loudAll_3 : decode cX7_loudAll 3 = .ok (.istore_n 2, 1) := by decide +kernel
theorem dX7_loudAll_4 : decode cX7_loudAll 4 = .ok (.iload_n 2, 1) := by decide +kernel
theorem dX7_loudAll_5 : decode cX7_loudAll 5 = .ok (.aload_n 0, 1) := by decide +kernel
theorem dX7_loudAll_6 : decode cX7_loudAll 6 = .ok (.getfield 141, 3) := by decide +kernel
theorem dX7_loudAll_9 : decode cX7_loudAll 9 = .ok (.if_icmp .ge 17, 3) := by decide +kernel
theorem dX7_loudAll_12 : decode cX7_loudAll 12 = .ok (.iload_n 1, 1) := by decide +kernel
theorem dX7_loudAll_13 : decode cX7_loudAll 13 = .ok (.aload_n 0, 1) := by decide +kernel
theorem dX7_loudAll_14 : decode cX7_loudAll 14 = .ok (.iload_n 2, 1) := by decide +kernel
theorem dX7_loudAll_15 : decode cX7_loudAll 15 = .ok (.invokevirtual 157, 3) := by decide +kernel
theorem dX7_loudAll_18 : decode cX7_loudAll 18 = .ok (.iadd, 1) := by decide +kernel
theorem dX7_loudAll_19 : decode cX7_loudAll 19 = .ok (.istore_n 1, 1) := by decide +kernel
theorem dX7_loudAll_20 : decode cX7_loudAll 20 = .ok (.iinc 2 1, 3) := by decide +kernel
theorem dX7_loudAll_23 : decode cX7_loudAll 23 = .ok (.goto (-19), 3) := by decide +kernel
theorem dX7_loudAll_26 : decode cX7_loudAll 26 = .ok (.iload_n 1, 1) := by decide +kernel
theorem dX7_loudAll_27 : decode cX7_loudAll 27 = .ok (.ireturn, 1) := by decide +kernel
set_option maxRecDepth 20000 in
theorem ggX7_echo_X7_loudAll : GoodIn wsX7_echo wsX7_loudAll := goodIn_r _ [6, 7, 8, 9, 10, 5, 11, 12, 13, 14, 15, 16, 17, 23, 24, 25, 26, 27, 28, 29, 30, 31, 32, 33, 34, 35, 36, 37, 38, 39, 40, 41, 42, 43, 44, 45, 46, 47, 48, 49, 50, 51, 52, 53, 54, 55, 56, 57, 58, 59, 60, 61, 62] (by decide +kernel) (by decide +kernel)
set_option maxRecDepth 20000 in
theorem gX7_echo_X7_loudAll : GoodIn wsX7_echo (wsV RX7 161 RX7 yX7_loudAll wsX7_loudAll) := goodIn_app (goodIn_of _ (by decide +kernel)) ggX7_echo_X7_loudAll
set_option maxRecDepth 20000 in
theorem ggX7_echo_X7_loudMusic : GoodIn wsX7_echo wsX7_loudMusic := goodIn_r _ [21, 22, 23, 24, 25, 26, 27, 28, 29, 30, 31, 32, 33, 34, 35, 36, 37, 38, 39, 40, 41, 42, 43, 44, 45, 46, 47, 48, 49, 50, 51, 52, 53, 54, 55, 56, 57, 58, 59, 60, 61, 62] (by decide +kernel) (by decide +kernel)
set_option maxRecDepth 20000 in
theorem gX7_echo_X7_loudMusic : GoodIn wsX7_echo (wsV RX7 164 RX7 yX7_loudMusic wsX7_loudMusic) := goodIn_app (goodIn_of _ (by decide +kernel)) ggX7_echo_X7_loudMusic
theorem dX7_echo_0 : decode cX7_echo 0 = .ok (.aload_n 0, 1) := by decide +kernel
theorem dX7_echo_1 : decode cX7_echo 1 = .ok (.invokevirtual 161, 3) := by decide +kernel
theorem dX7_echo_4 : decode cX7_echo 4 = .ok (.aload_n 0, 1) := by decide +kernel
theorem dX7_echo_5 : decode cX7_echo 5 = .ok (.invokevirtual 164, 3) := by decide +kernel
theorem dX7_echo_8 : decode cX7_echo 8 = .ok (.iadd, 1) := by decide +kernel
theorem dX7_echo_9 : decode cX7_echo 9 = .ok (.bipush 10, 2) := by decide +kernel
theorem dX7_echo_11 : decode cX7_echo 11 = .ok (.aload_n 0, 1) := by decide +kernel
theorem dX7_echo_12 : decode cX7_echo 12 = .ok (.getfield 144, 3) := by decide +kernel
theorem dX7_echo_15 : decode cX7_echo 15 = .ok (.isub, 1) := by decide +kernel
theorem dX7_echo_16 : decode cX7_echo 16 = .ok (.imul, 1) := by decide +kernel
theorem dX7_echo_17 : decode cX7_echo 17 = .ok (.bipush 10, 2) := by decide +kernel
theorem dX7_echo_19 : decode cX7_echo 19 = .ok (.idiv, 1) := by decide +kernel
theorem dX7_echo_20 : decode cX7_echo 20 = .ok (.ireturn, 1) := by decide +kernel
theorem dX7_far_0 : decode cX7_far 0 = .ok (.iload_n 0, 1) := by decide +kernel
theorem dX7_far_1 : decode cX7_far 1 = .ok (.bipush 10, 2) := by decide +kernel
theorem dX7_far_3 : decode cX7_far 3 = .ok (.irem, 1) := by decide +kernel
theorem dX7_far_4 : decode cX7_far 4 = .ok (.iload_n 1, 1) := by decide +kernel
theorem dX7_far_5 : decode cX7_far 5 = .ok (.bipush 10, 2) := by decide +kernel
theorem dX7_far_7 : decode cX7_far 7 = .ok (.irem, 1) := by decide +kernel
theorem dX7_far_8 : decode cX7_far 8 = .ok (.isub, 1) := by decide +kernel
theorem dX7_far_9 : decode cX7_far 9 = .ok (.istore_n 2, 1) := by decide +kernel
theorem dX7_far_10 : decode cX7_far 10 = .ok (.iload_n 0, 1) := by decide +kernel
theorem dX7_far_11 : decode cX7_far 11 = .ok (.bipush 10, 2) := by decide +kernel
theorem dX7_far_13 : decode cX7_far 13 = .ok (.idiv, 1) := by decide +kernel
theorem dX7_far_14 : decode cX7_far 14 = .ok (.iload_n 1, 1) := by decide +kernel
theorem dX7_far_15 : decode cX7_far 15 = .ok (.bipush 10, 2) := by decide +kernel
theorem dX7_far_17 : decode cX7_far 17 = .ok (.idiv, 1) := by decide +kernel
theorem dX7_far_18 : decode cX7_far 18 = .ok (.isub, 1) := by decide +kernel
theorem dX7_far_19 : decode cX7_far 19 = .ok (.istore_n 3, 1) := by decide +kernel
theorem dX7_far_20 : decode cX7_far 20 = .ok (.iload_n 2, 1) := by decide +kernel
theorem dX7_far_21 : decode cX7_far 21 = .ok (.iload_n 2, 1) := by decide +kernel
theorem dX7_far_22 : decode cX7_far 22 = .ok (.imul, 1) := by decide +kernel
theorem dX7_far_23 : decode cX7_far 23 = .ok (.iload_n 3, 1) := by decide +kernel
theorem dX7_far_24 : decode cX7_far 24 = .ok (.iload_n 3, 1) := by decide +kernel
theorem dX7_far_25 : decode cX7_far 25 = .ok (.imul, 1) := by decide +kernel
theorem dX7_far_26 : decode cX7_far 26 = .ok (.iadd, 1) := by decide +kernel
theorem dX7_far_27 : decode cX7_far 27 = .ok (.ireturn, 1) := by decide +kernel
set_option maxRecDepth 20000 in
theorem ggX7_fromAt_X7_loudOf : GoodIn wsX7_fromAt wsX7_loudOf := goodIn_r _ [6, 7, 8, 9, 10, 11, 5, 12, 16, 17, 18, 19, 20, 21, 22, 23, 24, 25, 26, 27, 28, 29, 30, 31, 32, 33, 34, 35, 36, 37, 38, 39, 40, 41, 42, 43, 44, 45, 46, 47, 48, 49, 50, 51, 52, 53, 54, 55] (by decide +kernel) (by decide +kernel)
set_option maxRecDepth 20000 in
theorem gX7_fromAt_X7_loudOf : GoodIn wsX7_fromAt (wsV RX7 157 RX7 yX7_loudOf wsX7_loudOf) := goodIn_app (goodIn_of _ (by decide +kernel)) ggX7_fromAt_X7_loudOf
set_option maxRecDepth 20000 in
theorem ggX7_fromAt_X7_far : GoodIn wsX7_fromAt wsX7_far := goodIn_r _ [15] (by decide +kernel) (by decide +kernel)
set_option maxRecDepth 20000 in
theorem gX7_fromAt_X7_far : GoodIn wsX7_fromAt (va_wsS RX7 167 yX7_far wsX7_far) := goodIn_app (goodIn_of _ (by decide +kernel)) ggX7_fromAt_X7_far
theorem dX7_fromAt_0 : decode cX7_fromAt 0 = .ok (.aload_n 0, 1) := by decide +kernel
theorem dX7_fromAt_1 : decode cX7_fromAt 1 = .ok (.getfield 16, 3) := by decide +kernel
theorem dX7_fromAt_4 : decode cX7_fromAt 4 = .ok (.iload_n 1, 1) := by decide +kernel
theorem dX7_fromAt_5 : decode cX7_fromAt 5 = .ok (.iaload, 1) := by decide +kernel
theorem dX7_fromAt_6 : decode cX7_fromAt 6 = .ok (.iload_n 2, 1) := by decide +kernel
theorem dX7_fromAt_7 : decode cX7_fromAt 7 = .ok (.if_icmp .ne 7, 3) := by decide +kernel
theorem dX7_fromAt_10 : decode cX7_fromAt 10 = .ok (.iconst 0, 1) := by decide +kernel
theorem dX7_fromAt_11 : decode cX7_fromAt 11 = .ok (.goto 21, 3) := by decide +kernel
theorem dX7_fromAt_14 : decode cX7_fromAt 14 = .ok (.iconst 4, 1) := by decide +kernel
theorem dX7_fromAt_15 : decode cX7_fromAt 15 = .ok (.aload_n 0, 1) := by decide +kernel
theorem dX7_fromAt_16 : decode cX7_fromAt 16 = .ok (.iload_n 1, 1) := by decide +kernel
theorem dX7_fromAt_17 : decode cX7_fromAt 17 = .ok (.invokevirtual 157, 3) := by decide +kernel
theorem dX7_fromAt_20 : decode cX7_fromAt 20 = .ok (.imul, 1) := by decide +kernel
theorem dX7_fromAt_21 : decode cX7_fromAt 21 = .ok (.aload_n 0, 1) := by decide +kernel
theorem dX7_fromAt_22 : decode cX7_fromAt 22 = .ok (.getfield 16, 3) := by decide +kernel
theorem dX7_fromAt_25 : decode cX7_fromAt 25 = .ok (.iload_n 1, 1) := by decide +kernel
theorem dX7_fromAt_26 : decode cX7_fromAt 26 = .ok (.iaload, 1) := by decide +kernel
theorem dX7_fromAt_27 : decode cX7_fromAt 27 = .ok (.iload_n 2, 1) := by decide +kernel
theorem dX7_fromAt_28 : decode cX7_fromAt 28 = .ok (.invokestatic 167, 3) := by decide +kernel
theorem dX7_fromAt_31 : decode cX7_fromAt 31 = .ok (.idiv, 1) := by decide +kernel
theorem dX7_fromAt_32 : decode cX7_fromAt 32 = .ok (.ireturn, 1) := by decide +kernel
set_option maxRecDepth 20000 in
theorem ggX7_noiseAt_X7_echo : GoodIn wsX7_noiseAt wsX7_echo := goodIn_r _ [6, 7, 8, 9, 10, 5, 11, 1, 12, 13, 14, 15, 16, 17, 18, 19, 20, 21, 22, 23, 24, 25, 26, 35, 36, 37, 38, 39, 40, 41, 42, 43, 44, 45, 46, 47, 48, 49, 50, 51, 52, 53, 54, 55, 56, 57, 58, 59, 60, 61, 62, 63, 64, 65, 66, 67, 68, 69, 70, 71, 72, 73, 74] (by decide +kernel) (by decide +kernel)
set_option maxRecDepth 20000 in
theorem gX7_noiseAt_X7_echo : GoodIn wsX7_noiseAt (wsV RX7 170 RX7 yX7_echo wsX7_echo) := goodIn_app (goodIn_of _ (by decide +kernel)) ggX7_noiseAt_X7_echo
set_option maxRecDepth 20000 in
theorem ggX7_noiseAt_X7_fromAt : GoodIn wsX7_noiseAt wsX7_fromAt := goodIn_r _ [30, 31, 12, 13, 14, 5, 15, 16, 17, 18, 19, 20, 21, 32, 33, 34, 35, 36, 37, 38, 39, 40, 41, 42, 43, 44, 45, 46, 47, 48, 49, 50, 51, 52, 53, 54, 55, 56, 57, 58, 59, 60, 61, 62, 63, 64, 65, 66, 67, 68, 69, 70, 71, 72, 73, 74] (by decide +kernel) (by decide +kernel)
set_option maxRecDepth 20000 in
theorem gX7_noiseAt_X7_fromAt : GoodIn wsX7_noiseAt (wsV RX7 173 RX7 yX7_fromAt wsX7_fromAt) := goodIn_app (goodIn_of _ (by decide +kernel)) ggX7_noiseAt_X7_fromAt
theorem dX7_noiseAt_0 : decode cX7_noiseAt 0 = .ok (.aload_n 0, 1) := by decide +kernel
theorem dX7_noiseAt_1 : decode cX7_noiseAt 1 = .ok (.invokevirtual 170, 3) := by decide +kernel
theorem dX7_noiseAt_4 : decode cX7_noiseAt 4 = .ok (.istore_n 2, 1) := by decide +kernel
theorem dX7_noiseAt_5 : decode cX7_noiseAt 5 = .ok (.iconst 0, 1) := by decide +kernel
theorem dX7_noiseAt_6 : decode cX7_noiseAt 6 = .ok (.istore_n 3, 1) := by decide +kernel
theorem dX7_noiseAt_7 : decode cX7_noiseAt 7 = .ok (.iload_n 3, 1) := by decide +kernel
theorem dX7_noiseAt_8 : decode cX7_noiseAt 8 = .ok (.aload_n 0, 1) := by decide +kernel
theorem dX7_noiseAt_9 : decode cX7_noiseAt 9 = .ok (.getfield 141, 3) := by decide +kernel
theorem dX7_noiseAt_12 : decode cX7_noiseAt 12 = .ok (.if_icmp .ge 18, 3) := by decide +kernel
theorem dX7_noiseAt_15 : decode cX7_noiseAt 15 = .ok (.iload_n 2, 1) := by decide +kernel
theorem dX7_noiseAt_16 : decode cX7_noiseAt 16 = .ok (.aload_n 0, 1) := by decide +kernel
theorem dX7_noiseAt_17 : decode cX7_noiseAt 17 = .ok (.iload_n 3, 1) := by decide +kernel
theorem dX7_noiseAt_18 : decode cX7_noiseAt 18 = .ok (.iload_n 1, 1) := by decide +kernel
theorem dX7_noiseAt_19 : decode cX7_noiseAt 19 = .ok (.invokevirtual 173, 3) := by decide +kernel
theorem dX7_noiseAt_22 : decode cX7_noiseAt 22 = .ok (.iadd, 1) := by decide +kernel
theorem dX7_noiseAt_23 : decode cX7_noiseAt 23 = .ok (.istore_n 2, 1) := by decide +kernel
theorem dX7_noiseAt_24 : decode cX7_noiseAt 24 = .ok (.iinc 3 1, 3) := by decide +kernel
theorem dX7_noiseAt_27 : decode cX7_noiseAt 27 = .ok (.goto (-20), 3) := by decide +kernel
theorem dX7_noiseAt_30 : decode cX7_noiseAt 30 = .ok (.iload_n 2, 1) := by decide +kernel
theorem dX7_noiseAt_31 : decode cX7_noiseAt 31 = .ok (.ireturn, 1) := by decide +kernel
theorem dX7_soundOf_0 : decode cX7_soundOf 0 = .ok (.aload_n 0, 1) := by decide +kernel
theorem dX7_soundOf_1 : decode cX7_soundOf 1 = .ok (.getfield 19, 3) := by decide +kernel
theorem dX7_soundOf_4 : decode cX7_soundOf 4 = .ok (.iload_n 1, 1) := by decide +kernel
theorem dX7_soundOf_5 : decode cX7_soundOf 5 = .ok (.iaload, 1) := by decide +kernel
theorem dX7_soundOf_6 : decode cX7_soundOf 6 = .ok (.istore_n 3, 1) := by decide +kernel
theorem dX7_soundOf_7 : decode cX7_soundOf 7 = .ok (.aload_n 0, 1) := by decide +kernel
theorem dX7_soundOf_8 : decode cX7_soundOf 8 = .ok (.getfield 13, 3) := by decide +kernel
theorem dX7_soundOf_11 : decode cX7_soundOf 11 = .ok (.iload_n 1, 1) := by decide +kernel
theorem dX7_soundOf_12 : decode cX7_soundOf 12 = .ok (.iaload, 1) := by decide +kernel
theorem dX7_soundOf_13 : decode cX7_soundOf 13 = .ok (.iconst 3, 1) := by decide +kernel
theorem dX7_soundOf_14 : decode cX7_soundOf 14 = .ok (.if_icmp .eq 7, 3) := by decide +kernel
theorem dX7_soundOf_17 : decode cX7_soundOf 17 = .ok (.iload_n 3, 1) := by decide +kernel
theorem dX7_soundOf_18 : decode cX7_soundOf 18 = .ok (.goto 15, 3) := by decide +kernel
theorem dX7_soundOf_21 : decode cX7_soundOf 21 = .ok (.iload_n 3, 1) := by decide +kernel
theorem dX7_soundOf_22 : decode cX7_soundOf 22 = .ok (.iconst 3, 1) := by decide +kernel
theorem dX7_soundOf_23 : decode cX7_soundOf 23 = .ok (.if_icmp .le 9, 3) := by decide +kernel
theorem dX7_soundOf_26 : decode cX7_soundOf 26 = .ok (.iload_n 3, 1) := by decide +kernel
theorem dX7_soundOf_27 : decode cX7_soundOf 27 = .ok (.iconst 2, 1) := by decide +kernel
theorem dX7_soundOf_28 : decode cX7_soundOf 28 = .ok (.isub, 1) := by decide +kernel
theorem dX7_soundOf_29 : decode cX7_soundOf 29 = .ok (.goto 4, 3) := by decide +kernel
theorem dX7_soundOf_32 : decode cX7_soundOf 32 = .ok (.iconst 1, 1) := by decide +kernel
theorem dX7_soundOf_33 : decode cX7_soundOf 33 = .ok (.istore 4, 2) := by decide +kernel
theorem dX7_soundOf_35 : decode cX7_soundOf 35 = .ok (.bipush 8, 2) := by decide +kernel
theorem dX7_soundOf_37 : decode cX7_soundOf 37 = .ok (.iload_n 2, 1) := by decide +kernel
theorem dX7_soundOf_38 : decode cX7_soundOf 38 = .ok (.imul, 1) := by decide +kernel
theorem dX7_soundOf_39 : decode cX7_soundOf 39 = .ok (.iload 4, 2) := by decide +kernel
theorem dX7_soundOf_41 : decode cX7_soundOf 41 = .ok (.idiv, 1) := by decide +kernel
theorem dX7_soundOf_42 : decode cX7_soundOf 42 = .ok (.ireturn, 1) := by decide +kernel
theorem dX7_would_0 : decode cX7_would 0 = .ok (.aload_n 0, 1) := by decide +kernel
theorem dX7_would_1 : decode cX7_would 1 = .ok (.getfield 19, 3) := by decide +kernel
theorem dX7_would_4 : decode cX7_would 4 = .ok (.iload_n 1, 1) := by decide +kernel
theorem dX7_would_5 : decode cX7_would 5 = .ok (.iaload, 1) := by decide +kernel

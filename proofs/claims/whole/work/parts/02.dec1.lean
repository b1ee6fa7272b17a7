theorem inJ9 : ∀ w ∈ wsJ90, w ∈ lw_tbl := by decide +kernel
set_option maxRecDepth 20000 in
theorem ggX0_init_X1_init : GoodIn wsX0_init wsX1_init := goodIn_r _ [9, 10, 2, 3, 11, 12, 13, 14, 15, 16, 17, 20, 21, 22, 23, 24, 25, 26, 27, 28, 29, 30, 31] (by decide +kernel) (by decide +kernel)
set_option maxRecDepth 20000 in
theorem gX0_init_X1_init_n17 : GoodIn wsX0_init (wsX1_init) := ggX0_init_X1_init
theorem dX0_init_0 : decode cX0_init 0 = .ok (.aload_n 0, 1) := by decide +kernel
theorem dX0_init_1 : decode cX0_init 1 = .ok (.invokespecial 3, 3) := by decide +kernel
theorem dX0_init_4 : decode cX0_init 4 = .ok (.aload_n 0, 1) := by decide +kernel
theorem dX0_init_5 : decode cX0_init 5 = .ok (.bipush 10, 2) := by decide +kernel
theorem dX0_init_7 : decode cX0_init 7 = .ok (.anewarray 9, 3) := by decide +kernel
theorem dX0_init_10 : decode cX0_init 10 = .ok (.putfield 11, 3) := by decide +kernel
theorem dX0_init_13 : decode cX0_init 13 = .ok (.iconst 0, 1) := by decide +kernel
theorem dX0_init_14 : decode cX0_init 14 = .ok (.istore_n 1, 1) := by decide +kernel
theorem dX0_init_15 : decode cX0_init 15 = .ok (.iload_n 1, 1) := by decide +kernel
theorem dX0_init_16 : decode cX0_init 16 = .ok (.bipush 10, 2) := by decide +kernel
theorem dX0_init_18 : decode cX0_init 18 = .ok (.if_icmp .ge 22, 3) := by decide +kernel
theorem dX0_init_21 : decode cX0_init 21 = .ok (.aload_n 0, 1) := by decide +kernel
theorem dX0_init_22 : decode cX0_init 22 = .ok (.getfield 11, 3) := by decide +kernel
theorem dX0_init_25 : decode cX0_init 25 = .ok (.iload_n 1, 1) := by decide +kernel
theorem dX0_init_26 : decode cX0_init 26 = .ok (.new 9, 3) := by decide +kernel
theorem dX0_init_29 : decode cX0_init 29 = .ok (.dup, 1) := by decide +kernel
theorem dX0_init_30 : decode cX0_init 30 = .ok (.invokespecial 17, 3) := by decide +kernel
theorem dX0_init_33 : decode cX0_init 33 = .ok (.aastore, 1) := by decide +kernel
theorem dX0_init_34 : decode cX0_init 34 = .ok (.iinc 1 1, 3) := by decide +kernel
theorem dX0_init_37 : decode cX0_init 37 = .ok (.goto (-22), 3) := by decide +kernel
theorem dX0_init_40 : decode cX0_init 40 = .ok (.return_, 1) := by decide +kernel
theorem dX0_clear_0 : decode cX0_clear 0 = .ok (.aload_n 0, 1) := by decide +kernel
theorem dX0_clear_1 : decode cX0_clear 1 = .ok (.iconst 0, 1) := by decide +kernel
theorem dX0_clear_2 : decode cX0_clear 2 = .ok (.putfield 18, 3) := by decide +kernel
theorem dX0_clear_5 : decode cX0_clear 5 = .ok (.return_, 1) := by decide +kernel
set_option maxRecDepth 20000 in
theorem ggX0_add_X0_forgetFirst : GoodIn wsX0_add wsX0_forgetFirst := goodIn_r _ [7, 2, 1, 21, 22] (by decide +kernel) (by decide +kernel)
set_option maxRecDepth 20000 in
theorem gX0_add_X0_forgetFirst : GoodIn wsX0_add (wsV RX0 22 RX0 yX0_forgetFirst wsX0_forgetFirst) := goodIn_app (goodIn_of _ (by decide +kernel)) ggX0_add_X0_forgetFirst
set_option maxRecDepth 20000 in
theorem ggX0_add_X1_copyRings : GoodIn wsX0_add wsX1_copyRings := goodIn_r _ [12, 13, 14, 15, 16, 17, 18, 19, 20, 23, 24, 25, 26, 27, 28, 29, 30, 31, 32, 33, 34] (by decide +kernel) (by decide +kernel)
set_option maxRecDepth 20000 in
theorem gX0_add_X1_copyRings : GoodIn wsX0_add (wsV RX0 25 RX1 yX1_copyRings wsX1_copyRings) := goodIn_app (goodIn_of _ (by decide +kernel)) ggX0_add_X1_copyRings
theorem dX0_add_0 : decode cX0_add 0 = .ok (.aload_n 0, 1) := by decide +kernel
theorem dX0_add_1 : decode cX0_add 1 = .ok (.getfield 18, 3) := by decide +kernel
theorem dX0_add_4 : decode cX0_add 4 = .ok (.bipush 10, 2) := by decide +kernel
theorem dX0_add_6 : decode cX0_add 6 = .ok (.if_icmp .lt 7, 3) := by decide +kernel
theorem dX0_add_9 : decode cX0_add 9 = .ok (.aload_n 0, 1) := by decide +kernel
theorem dX0_add_10 : decode cX0_add 10 = .ok (.invokevirtual 22, 3) := by decide +kernel
theorem dX0_add_13 : decode cX0_add 13 = .ok (.aload_n 0, 1) := by decide +kernel
theorem dX0_add_14 : decode cX0_add 14 = .ok (.getfield 11, 3) := by decide +kernel
theorem dX0_add_17 : decode cX0_add 17 = .ok (.aload_n 0, 1) := by decide +kernel
theorem dX0_add_18 : decode cX0_add 18 = .ok (.getfield 18, 3) := by decide +kernel
theorem dX0_add_21 : decode cX0_add 21 = .ok (.aaload, 1) := by decide +kernel
theorem dX0_add_22 : decode cX0_add 22 = .ok (.aload_n 1, 1) := by decide +kernel
theorem dX0_add_23 : decode cX0_add 23 = .ok (.invokevirtual 25, 3) := by decide +kernel
theorem dX0_add_26 : decode cX0_add 26 = .ok (.aload_n 0, 1) := by decide +kernel
theorem dX0_add_27 : decode cX0_add 27 = .ok (.dup, 1) := by decide +kernel
theorem dX0_add_28 : decode cX0_add 28 = .ok (.getfield 18, 3) := by decide +kernel
theorem dX0_add_31 : decode cX0_add 31 = .ok (.iconst 1, 1) := by decide +kernel
theorem dX0_add_32 : decode cX0_add 32 = .ok (.iadd, 1) := by decide +kernel
theorem dX0_add_33 : decode cX0_add 33 = .ok (.putfield 18, 3) := by decide +kernel
theorem dX0_add_36 : decode cX0_add 36 = .ok (.return_, 1) := by decide +kernel
set_option maxRecDepth 20000 in
theorem ggX0_undoLast_X1_copyRings : GoodIn wsX0_undoLast wsX1_copyRings := goodIn_r _ [7, 8, 9, 10, 11, 12, 13, 14, 15, 18, 19, 20, 21, 22, 23, 24, 25, 26, 27, 28, 29] (by decide +kernel) (by decide +kernel)
set_option maxRecDepth 20000 in
theorem gX0_undoLast_X1_copyRings : GoodIn wsX0_undoLast (wsV RX0 25 RX1 yX1_copyRings wsX1_copyRings) := goodIn_app (goodIn_of _ (by decide +kernel)) ggX0_undoLast_X1_copyRings
theorem dX0_undoLast_0 : decode cX0_undoLast 0 = .ok (.aload_n 0, 1) := by decide +kernel
theorem dX0_undoLast_1 : decode cX0_undoLast 1 = .ok (.getfield 18, 3) := by decide +kernel
theorem dX0_undoLast_4 : decode cX0_undoLast 4 = .ok (.ifCond .le 26, 3) := by decide +kernel
theorem dX0_undoLast_7 : decode cX0_undoLast 7 = .ok (.aload_n 0, 1) := by decide +kernel
theorem dX0_undoLast_8 : decode cX0_undoLast 8 = .ok (.dup, 1) := by decide +kernel
theorem dX0_undoLast_9 : decode cX0_undoLast 9 = .ok (.getfield 18, 3) := by decide +kernel
theorem dX0_undoLast_12 : decode cX0_undoLast 12 = .ok (.iconst 1, 1) := by decide +kernel
theorem dX0_undoLast_13 : decode cX0_undoLast 13 = .ok (.isub, 1) := by decide +kernel
theorem dX0_undoLast_14 : decode cX0_undoLast 14 = .ok (.putfield 18, 3) := by decide +kernel
theorem dX0_undoLast_17 : decode cX0_undoLast 17 = .ok (.aload_n 1, 1) := by decide +kernel
theorem dX0_undoLast_18 : decode cX0_undoLast 18 = .ok (.aload_n 0, 1) := by decide +kernel
theorem dX0_undoLast_19 : decode cX0_undoLast 19 = .ok (.getfield 11, 3) := by decide +kernel
theorem dX0_undoLast_22 : decode cX0_undoLast 22 = .ok (.aload_n 0, 1) := by decide +kernel
theorem dX0_undoLast_23 : decode cX0_undoLast 23 = .ok (.getfield 18, 3) := by decide +kernel
theorem dX0_undoLast_26 : decode cX0_undoLast 26 = .ok (.aaload, 1) := by decide +kernel
theorem dX0_undoLast_27 : decode cX0_undoLast 27 = .ok (.invokevirtual 25, 3) := by decide +kernel
theorem dX0_undoLast_30 : decode cX0_undoLast 30 = .ok (.return_, 1) := by decide +kernel
theorem dX0_forgetFirst_0 : decode cX0_forgetFirst 0 = .ok (.aload_n 0, 1) := by decide +kernel
theorem dX0_forgetFirst_1 : decode cX0_forgetFirst 1 = .ok (.getfield 11, 3) := by decide +kernel
theorem dX0_forgetFirst_4 : decode cX0_forgetFirst 4 = .ok (.iconst 0, 1) := by decide +kernel
theorem dX0_forgetFirst_5 : decode cX0_forgetFirst 5 = .ok (.aaload, 1) := by decide +kernel
theorem dX0_forgetFirst_6 : decode cX0_forgetFirst 6 = .ok (.astore_n 1, 1) := by decide +kernel
theorem dX0_forgetFirst_7 : decode cX0_forgetFirst 7 = .ok (.iconst 0, 1) := by decide +kernel
theorem dX0_forgetFirst_8 : decode cX0_forgetFirst 8 = .ok (.istore_n 2, 1) := by decide +kernel
theorem dX0_forgetFirst_9 : decode cX0_forgetFirst 9 = .ok (.iload_n 2, 1) := by decide +kernel
theorem dX0_forgetFirst_10 : decode cX0_forgetFirst 10 = .ok (.bipush 9, 2) := by decide +kernel
theorem dX0_forgetFirst_12 : decode cX0_forgetFirst 12 = .ok (.if_icmp .ge 23, 3) := by decide +kernel
theorem dX0_forgetFirst_15 : decode cX0_forgetFirst 15 = .ok (.aload_n 0, 1) := by decide +kernel
theorem dX0_forgetFirst_16 : decode cX0_forgetFirst 16 = .ok (.getfield 11, 3) := by decide +kernel
theorem dX0_forgetFirst_19 : decode cX0_forgetFirst 19 = .ok (.iload_n 2, 1) := by decide +kernel
theorem dX0_forgetFirst_20 : decode cX0_forgetFirst 20 = .ok (.aload_n 0, 1) := by decide +kernel
theorem dX0_forgetFirst_21 : decode cX0_forgetFirst 21 = .ok (.getfield 11, 3) := by decide +kernel
theorem dX0_forgetFirst_24 : decode cX0_forgetFirst 24 = .ok (.iload_n 2, 1) := by decide +kernel
theorem dX0_forgetFirst_25 : decode cX0_forgetFirst 25 = .ok (.iconst 1, 1) := by decide +kernel
theorem dX0_forgetFirst_26 : decode cX0_forgetFirst 26 = .ok (.iadd, 1) := by decide +kernel
theorem dX0_forgetFirst_27 : decode cX0_forgetFirst 27 = .ok (.aaload, 1) := by decide +kernel
theorem dX0_forgetFirst_28 : decode cX0_forgetFirst 28 = .ok (.aastore, 1) := by decide +kernel
theorem dX0_forgetFirst_29 : decode cX0_forgetFirst 29 = .ok (.iinc 2 1, 3) := by decide +kernel
theorem dX0_forgetFirst_32 : decode cX0_forgetFirst 32 = .ok (.goto (-23), 3) := by decide +kernel
theorem dX0_forgetFirst_35 : decode cX0_forgetFirst 35 = .ok (.aload_n 0, 1) := by decide +kernel
theorem dX0_forgetFirst_36 : decode cX0_forgetFirst 36 = .ok (.getfield 11, 3) := by decide +kernel
theorem dX0_forgetFirst_39 : decode cX0_forgetFirst 39 = .ok (.bipush 9, 2) := by decide +kernel
theorem dX0_forgetFirst_41 : decode cX0_forgetFirst 41 = .ok (.aload_n 1, 1) := by decide +kernel
theorem dX0_forgetFirst_42 : decode cX0_forgetFirst 42 = .ok (.aastore, 1) := by decide +kernel
theorem dX0_forgetFirst_43 : decode cX0_forgetFirst 43 = .ok (.aload_n 0, 1) := by decide +kernel
theorem dX0_forgetFirst_44 : decode cX0_forgetFirst 44 = .ok (.bipush 9, 2) := by decide +kernel
theorem dX0_forgetFirst_46 : decode cX0_forgetFirst 46 = .ok (.putfield 18, 3) := by decide +kernel
theorem dX0_forgetFirst_49 : decode cX0_forgetFirst 49 = .ok (.return_, 1) := by decide +kernel
theorem dX1_init_0 : decode cX1_init 0 = .ok (.aload_n 0, 1) := by decide +kernel
theorem dX1_init_1 : decode cX1_init 1 = .ok (.invokespecial 3, 3) := by decide +kernel
theorem dX1_init_4 : decode cX1_init 4 = .ok (.aload_n 0, 1) := by decide +kernel
theorem dX1_init_5 : decode cX1_init 5 = .ok (.bipush 8, 2) := by decide +kernel
theorem dX1_init_7 : decode cX1_init 7 = .ok (.newarray .int, 2) := by decide +kernel
theorem dX1_init_9 : decode cX1_init 9 = .ok (.putfield 9, 3) := by decide +kernel
theorem dX1_init_12 : decode cX1_init 12 = .ok (.aload_n 0, 1) := by decide +kernel
theorem dX1_init_13 : decode cX1_init 13 = .ok (.bipush 8, 2) := by decide +kernel
theorem dX1_init_15 : decode cX1_init 15 = .ok (.newarray .int, 2) := by decide +kernel
theorem dX1_init_17 : decode cX1_init 17 = .ok (.putfield 15, 3) := by decide +kernel
theorem dX1_init_20 : decode cX1_init 20 = .ok (.aload_n 0, 1) := by decide +kernel
theorem dX1_init_21 : decode cX1_init 21 = .ok (.bipush 8, 2) := by decide +kernel
theorem dX1_init_23 : decode cX1_init 23 = .ok (.newarray .int, 2) := by decide +kernel
theorem dX1_init_25 : decode cX1_init 25 = .ok (.putfield 18, 3) := by decide +kernel
theorem dX1_init_28 : decode cX1_init 28 = .ok (.aload_n 0, 1) := by decide +kernel
theorem dX1_init_29 : decode cX1_init 29 = .ok (.bipush 8, 2) := by decide +kernel
theorem dX1_init_31 : decode cX1_init 31 = .ok (.newarray .int, 2) := by decide +kernel
theorem dX1_init_33 : decode cX1_init 33 = .ok (.putfield 21, 3) := by decide +kernel
theorem dX1_init_36 : decode cX1_init 36 = .ok (.aload_n 0, 1) := by decide +kernel
theorem dX1_init_37 : decode cX1_init 37 = .ok (.bipush 8, 2) := by decide +kernel
theorem dX1_init_39 : decode cX1_init 39 = .ok (.newarray .int, 2) := by decide +kernel
theorem dX1_init_41 : decode cX1_init 41 = .ok (.putfield 24, 3) := by decide +kernel
theorem dX1_init_44 : decode cX1_init 44 = .ok (.aload_n 0, 1) := by decide +kernel
theorem dX1_init_45 : decode cX1_init 45 = .ok (.bipush 8, 2) := by decide +kernel
theorem dX1_init_47 : decode cX1_init 47 = .ok (.newarray .int, 2) := by decide +kernel
theorem dX1_init_49 : decode cX1_init 49 = .ok (.putfield 27, 3) := by decide +kernel
theorem dX1_init_52 : decode cX1_init 52 = .ok (.return_, 1) := by decide +kernel
theorem dX1_clear_0 : decode cX1_clear 0 = .ok (.aload_n 0, 1) := by decide +kernel
theorem dX1_clear_1 : decode cX1_clear 1 = .ok (.iconst 0, 1) := by decide +kernel
theorem dX1_clear_2 : decode cX1_clear 2 = .ok (.putfield 30, 3) := by decide +kernel
theorem dX1_clear_5 : decode cX1_clear 5 = .ok (.aload_n 0, 1) := by decide +kernel
theorem dX1_clear_6 : decode cX1_clear 6 = .ok (.iconst 0, 1) := by decide +kernel
theorem dX1_clear_7 : decode cX1_clear 7 = .ok (.putfield 34, 3) := by decide +kernel
theorem dX1_clear_10 : decode cX1_clear 10 = .ok (.aload_n 0, 1) := by decide +kernel
theorem dX1_clear_11 : decode cX1_clear 11 = .ok (.iconst 0, 1) := by decide +kernel
theorem dX1_clear_12 : decode cX1_clear 12 = .ok (.putfield 37, 3) := by decide +kernel
theorem dX1_clear_15 : decode cX1_clear 15 = .ok (.aload_n 0, 1) := by decide +kernel
theorem dX1_clear_16 : decode cX1_clear 16 = .ok (.iconst 0, 1) := by decide +kernel
theorem dX1_clear_17 : decode cX1_clear 17 = .ok (.putfield 40, 3) := by decide +kernel
theorem dX1_clear_20 : decode cX1_clear 20 = .ok (.aload_n 0, 1) := by decide +kernel
theorem dX1_clear_21 : decode cX1_clear 21 = .ok (.iconst 0, 1) := by decide +kernel
theorem dX1_clear_22 : decode cX1_clear 22 = .ok (.putfield 44, 3) := by decide +kernel
theorem dX1_clear_25 : decode cX1_clear 25 = .ok (.return_, 1) := by decide +kernel
set_option maxRecDepth 20000 in
theorem ggX1_copyFrom_X1_copyRings : GoodIn wsX1_copyFrom wsX1_copyRings := goodIn_r _ [7, 8, 9, 10, 11, 12, 13, 14, 15, 16, 17, 18, 19, 20, 21, 22, 23, 24, 25, 26, 27] (by decide +kernel) (by decide +kernel)
set_option maxRecDepth 20000 in
theorem gX1_copyFrom_X1_copyRings : GoodIn wsX1_copyFrom (wsV RX1 47 RX1 yX1_copyRings wsX1_copyRings) := goodIn_app (goodIn_of _ (by decide +kernel)) ggX1_copyFrom_X1_copyRings
theorem dX1_copyFrom_0 : decode cX1_copyFrom 0 = .ok (.aload_n 0, 1) := by decide +kernel
theorem dX1_copyFrom_1 : decode cX1_copyFrom 1 = .ok (.aload_n 1, 1) := by decide +kernel
theorem dX1_copyFrom_2 : decode cX1_copyFrom 2 = .ok (.invokevirtual 47, 3) := by decide +kernel
theorem dX1_copyFrom_5 : decode cX1_copyFrom 5 = .ok (.aload_n 0, 1) := by decide +kernel
theorem dX1_copyFrom_6 : decode cX1_copyFrom 6 = .ok (.aload_n 1, 1) := by decide +kernel
theorem dX1_copyFrom_7 : decode cX1_copyFrom 7 = .ok (.getfield 34, 3) := by decide +kernel
theorem dX1_copyFrom_10 : decode cX1_copyFrom 10 = .ok (.putfield 34, 3) := by decide +kernel
theorem dX1_copyFrom_13 : decode cX1_copyFrom 13 = .ok (.aload_n 0, 1) := by decide +kernel
theorem dX1_copyFrom_14 : decode cX1_copyFrom 14 = .ok (.aload_n 1, 1) := by decide +kernel
theorem dX1_copyFrom_15 : decode cX1_copyFrom 15 = .ok (.getfield 40, 3) := by decide +kernel
theorem dX1_copyFrom_18 : decode cX1_copyFrom 18 = .ok (.putfield 40, 3) := by decide +kernel
theorem dX1_copyFrom_21 : decode cX1_copyFrom 21 = .ok (.return_, 1) := by decide +kernel
theorem dX1_copyRings_0 : decode cX1_copyRings 0 = .ok (.aload_n 0, 1) := by decide +kernel
theorem dX1_copyRings_1 : decode cX1_copyRings 1 = .ok (.aload_n 1, 1) := by decide +kernel
theorem dX1_copyRings_2 : decode cX1_copyRings 2 = .ok (.getfield 30, 3) := by decide +kernel
theorem dX1_copyRings_5 : decode cX1_copyRings 5 = .ok (.putfield 30, 3) := by decide +kernel
theorem dX1_copyRings_8 : decode cX1_copyRings 8 = .ok (.iconst 0, 1) := by decide +kernel
theorem dX1_copyRings_9 : decode cX1_copyRings 9 = .ok (.istore_n 2, 1) := by decide +kernel
theorem dX1_copyRings_10 : decode cX1_copyRings 10 = .ok (.iload_n 2, 1) := by decide +kernel
theorem dX1_copyRings_11 : decode cX1_copyRings 11 = .ok (.aload_n 0, 1) := by decide +kernel
theorem dX1_copyRings_12 : decode cX1_copyRings 12 = .ok (.getfield 30, 3) := by decide +kernel
theorem dX1_copyRings_15 : decode cX1_copyRings 15 = .ok (.if_icmp .ge 69, 3) := by decide +kernel
theorem dX1_copyRings_18 : decode cX1_copyRings 18 = .ok (.aload_n 0, 1) := by decide +kernel
theorem dX1_copyRings_19 : decode cX1_copyRings 19 = .ok (.getfield 9, 3) := by decide +kernel
theorem dX1_copyRings_22 : decode cX1_copyRings 22 = .ok (.iload_n 2, 1) := by decide +kernel
theorem dX1_copyRings_23 : decode cX1_copyRings 23 = .ok (.aload_n 1, 1) := by decide +kernel
theorem dX1_copyRings_24 : decode cX1_copyRings 24 = .ok (.getfield 9, 3) := by decide +kernel
theorem dX1_copyRings_27 : decode cX1_copyRings 27 = .ok (.iload_n 2, 1) := by decide +kernel
theorem dX1_copyRings_28 : decode cX1_copyRings 28 = .ok (.iaload, 1) := by decide +kernel
theorem dX1_copyRings_29 : decode cX1_copyRings 29 = .ok (.iastore, 1) := by decide +kernel
theorem dX1_copyRings_30 : decode cX1_copyRings 30 = .ok (.aload_n 0, 1) := by decide +kernel
theorem dX1_copyRings_31 : decode cX1_copyRings 31 = .ok (.getfield 15, 3) := by decide +kernel
theorem dX1_copyRings_34 : decode cX1_copyRings 34 = .ok (.iload_n 2, 1) := by decide +kernel
theorem dX1_copyRings_35 : decode cX1_copyRings 35 = .ok (.aload_n 1, 1) := by decide +kernel
theorem dX1_copyRings_36 : decode cX1_copyRings 36 = .ok (.getfield 15, 3) := by decide +kernel
theorem dX1_copyRings_39 : decode cX1_copyRings 39 = .ok (.iload_n 2, 1) := by decide +kernel
theorem dX1_copyRings_40 : decode cX1_copyRings 40 = .ok (.iaload, 1) := by decide +kernel
theorem dX1_copyRings_41 : decode cX1_copyRings 41 = .ok (.iastore, 1) := by decide +kernel
theorem dX1_copyRings_42 : decode cX1_copyRings 42 = .ok (.aload_n 0, 1) := by decide +kernel
theorem dX1_copyRings_43 : decode cX1_copyRings 43 = .ok (.getfield 18, 3) := by decide +kernel
theorem dX1_copyRings_46 : decode cX1_copyRings 46 = .ok (.iload_n 2, 1) := by decide +kernel
theorem dX1_copyRings_47 : decode cX1_copyRings 47 = .ok (.aload_n 1, 1) := by decide +kernel
theorem dX1_copyRings_48 : decode cX1_copyRings 48 = .ok (.getfield 18, 3) := by decide +kernel
theorem dX1_copyRings_51 : decode cX1_copyRings 51 = .ok (.iload_n 2, 1) := by decide +kernel
theorem dX1_copyRings_52 : decode cX1_copyRings 52 = .ok (.iaload, 1) := by decide +kernel
theorem dX1_copyRings_53 : decode cX1_copyRings 53 = .ok (.iastore, 1) := by decide +kernel
theorem dX1_copyRings_54 : decode cX1_copyRings 54 = .ok (.aload_n 0, 1) := by decide +kernel
theorem dX1_copyRings_55 : decode cX1_copyRings 55 = .ok (.getfield 21, 3) := by decide +kernel
theorem dX1_copyRings_58 : decode cX1_copyRings 58 = .ok (.iload_n 2, 1) := by decide +kernel
theorem dX1_copyRings_59 : decode cX1_copyRings 59 = .ok (.aload_n 1, 1) := by decide +kernel
theorem dX1_copyRings_60 : decode cX1_copyRings 60 = .ok (.getfield 21, 3) := by decide +kernel
theorem dX1_copyRings_63 : decode cX1_copyRings 63 = .ok (.iload_n 2, 1) := by decide +kernel
theorem dX1_copyRings_64 : decode cX1_copyRings 64 = .ok (.iaload, 1) := by decide +kernel
theorem dX1_copyRings_65 : decode cX1_copyRings 65 = .ok (.iastore, 1) := by decide +kernel
theorem dX1_copyRings_66 : decode cX1_copyRings 66 = .ok (.aload_n 0, 1) := by decide +kernel
theorem dX1_copyRings_67 : decode cX1_copyRings 67 = .ok (.getfield 24, 3) := by decide +kernel
theorem dX1_copyRings_70 : decode cX1_copyRings 70 = .ok (.iload_n 2, 1) := by decide +kernel
theorem dX1_copyRings_71 : decode cX1_copyRings 71 = .ok (.aload_n 1, 1) := by decide +kernel
theorem dX1_copyRings_72 : decode cX1_copyRings 72 = .ok (.getfield 24, 3) := by decide +kernel
theorem dX1_copyRings_75 : decode cX1_copyRings 75 = .ok (.iload_n 2, 1) := by decide +kernel
theorem dX1_copyRings_76 : decode cX1_copyRings 76 = .ok (.iaload, 1) := by decide +kernel
theorem dX1_copyRings_77 : decode cX1_copyRings 77 = .ok (.iastore, 1) := by decide +kernel
theorem dX1_copyRings_78 : decode cX1_copyRings 78 = .ok (.iinc 2 1, 3) := by decide +kernel
theorem dX1_copyRings_81 : decode cX1_copyRings 81 = .ok (.goto (-71), 3) := by decide +kernel
theorem dX1_copyRings_84 : decode cX1_copyRings 84 = .ok (.aload_n 0, 1) := by decide +kernel
theorem dX1_copyRings_85 : decode cX1_copyRings 85 = .ok (.aload_n 1, 1) := by decide +kernel
theorem dX1_copyRings_86 : decode cX1_copyRings 86 = .ok (.getfield 37, 3) := by decide +kernel
theorem dX1_copyRings_89 : decode cX1_copyRings 89 = .ok (.putfield 37, 3) := by decide +kernel
theorem dX1_copyRings_92 : decode cX1_copyRings 92 = .ok (.aload_n 0, 1) := by decide +kernel
theorem dX1_copyRings_93 : decode cX1_copyRings 93 = .ok (.iconst 0, 1) := by decide +kernel
theorem dX1_copyRings_94 : decode cX1_copyRings 94 = .ok (.putfield 44, 3) := by decide +kernel
theorem dX1_copyRings_97 : decode cX1_copyRings 97 = .ok (.return_, 1) := by decide +kernel
theorem dX1_has_0 : decode cX1_has 0 = .ok (.iload_n 1, 1) := by decide +kernel
theorem dX1_has_1 : decode cX1_has 1 = .ok (.ifCond .lt 15, 3) := by decide +kernel
theorem dX1_has_4 : decode cX1_has 4 = .ok (.iload_n 1, 1) := by decide +kernel
theorem dX1_has_5 : decode cX1_has 5 = .ok (.aload_n 0, 1) := by decide +kernel
theorem dX1_has_6 : decode cX1_has 6 = .ok (.getfield 30, 3) := by decide +kernel
theorem dX1_has_9 : decode cX1_has 9 = .ok (.if_icmp .ge 7, 3) := by decide +kernel
theorem dX1_has_12 : decode cX1_has 12 = .ok (.iconst 1, 1) := by decide +kernel
theorem dX1_has_13 : decode cX1_has 13 = .ok (.goto 4, 3) := by decide +kernel
theorem dX1_has_16 : decode cX1_has 16 = .ok (.iconst 0, 1) := by decide +kernel
theorem dX1_has_17 : decode cX1_has 17 = .ok (.ireturn, 1) := by decide +kernel
theorem dX1_add_0 : decode cX1_add 0 = .ok (.aload_n 0, 1) := by decide +kernel
theorem dX1_add_1 : decode cX1_add 1 = .ok (.getfield 30, 3) := by decide +kernel
theorem dX1_add_4 : decode cX1_add 4 = .ok (.bipush 8, 2) := by decide +kernel
theorem dX1_add_6 : decode cX1_add 6 = .ok (.if_icmp .ge 65, 3) := by decide +kernel
theorem dX1_add_9 : decode cX1_add 9 = .ok (.aload_n 0, 1) := by decide +kernel
theorem dX1_add_10 : decode cX1_add 10 = .ok (.getfield 9, 3) := by decide +kernel
theorem dX1_add_13 : decode cX1_add 13 = .ok (.aload_n 0, 1) := by decide +kernel
theorem dX1_add_14 : decode cX1_add 14 = .ok (.getfield 30, 3) := by decide +kernel
theorem dX1_add_17 : decode cX1_add 17 = .ok (.iload_n 1, 1) := by decide +kernel
theorem dX1_add_18 : decode cX1_add 18 = .ok (.iastore, 1) := by decide +kernel
theorem dX1_add_19 : decode cX1_add 19 = .ok (.aload_n 0, 1) := by decide +kernel
theorem dX1_add_20 : decode cX1_add 20 = .ok (.getfield 15, 3) := by decide +kernel
theorem dX1_add_23 : decode cX1_add 23 = .ok (.aload_n 0, 1) := by decide +kernel
theorem dX1_add_24 : decode cX1_add 24 = .ok (.getfield 30, 3) := by decide +kernel
theorem dX1_add_27 : decode cX1_add 27 = .ok (.iload_n 2, 1) := by decide +kernel
theorem dX1_add_28 : decode cX1_add 28 = .ok (.iastore, 1) := by decide +kernel
theorem dX1_add_29 : decode cX1_add 29 = .ok (.aload_n 0, 1) := by decide +kernel
theorem dX1_add_30 : decode cX1_add 30 = .ok (.getfield 18, 3) := by decide +kernel
theorem dX1_add_33 : decode cX1_add 33 = .ok (.aload_n 0, 1) := by decide +kernel
theorem dX1_add_34 : decode cX1_add 34 = .ok (.getfield 30, 3) := by decide +kernel
theorem dX1_add_37 : decode cX1_add 37 = .ok (.iload_n 3, 1) := by decide +kernel
theorem dX1_add_38 : decode cX1_add 38 = .ok (.iastore, 1) := by decide +kernel
theorem dX1_add_39 : decode cX1_add 39 = .ok (.aload_n 0, 1) := by decide +kernel
theorem dX1_add_40 : decode cX1_add 40 = .ok (.getfield 21, 3) := by decide +kernel
theorem dX1_add_43 : decode cX1_add 43 = .ok (.aload_n 0, 1) := by decide +kernel
theorem dX1_add_44 : decode cX1_add 44 = .ok (.getfield 30, 3) := by decide +kernel
theorem dX1_add_47 : decode cX1_add 47 = .ok (.iload 4, 2) := by decide +kernel
theorem dX1_add_49 : decode cX1_add 49 = .ok (.iastore, 1) := by decide +kernel
theorem dX1_add_50 : decode cX1_add 50 = .ok (.aload_n 0, 1) := by decide +kernel
theorem dX1_add_51 : decode cX1_add 51 = .ok (.getfield 24, 3) := by decide +kernel
theorem dX1_add_54 : decode cX1_add 54 = .ok (.aload_n 0, 1) := by decide +kernel
theorem dX1_add_55 : decode cX1_add 55 = .ok (.getfield 30, 3) := by decide +kernel
theorem dX1_add_58 : decode cX1_add 58 = .ok (.iload 5, 2) := by decide +kernel
theorem dX1_add_60 : decode cX1_add 60 = .ok (.iastore, 1) := by decide +kernel
theorem dX1_add_61 : decode cX1_add 61 = .ok (.aload_n 0, 1) := by decide +kernel
theorem dX1_add_62 : decode cX1_add 62 = .ok (.dup, 1) := by decide +kernel
theorem dX1_add_63 : decode cX1_add 63 = .ok (.getfield 30, 3) := by decide +kernel
theorem dX1_add_66 : decode cX1_add 66 = .ok (.iconst 1, 1) := by decide +kernel
theorem dX1_add_67 : decode cX1_add 67 = .ok (.iadd, 1) := by decide +kernel
theorem dX1_add_68 : decode cX1_add 68 = .ok (.putfield 30, 3) := by decide +kernel
theorem dX1_add_71 : decode cX1_add 71 = .ok (.return_, 1) := by decide +kernel
set_option maxRecDepth 20000 in
theorem ggX1_remove_X1_has : GoodIn wsX1_remove wsX1_has := goodIn_r _ [11, 1, 12, 13, 14, 15, 16, 17, 18, 19, 20, 21, 22, 23] (by decide +kernel) (by decide +kernel)
set_option maxRecDepth 20000 in
theorem gX1_remove_X1_has : GoodIn wsX1_remove (wsV RX1 51 RX1 yX1_has wsX1_has) := goodIn_app (goodIn_of _ (by decide +kernel)) ggX1_remove_X1_has
theorem dX1_remove_0 : decode cX1_remove 0 = .ok (.aload_n 0, 1) := by decide +kernel
theorem dX1_remove_1 : decode cX1_remove 1 = .ok (.iload_n 1, 1) := by decide +kernel
theorem dX1_remove_2 : decode cX1_remove 2 = .ok (.invokevirtual 51, 3) := by decide +kernel
theorem dX1_remove_5 : decode cX1_remove 5 = .ok (.ifCond .eq 101, 3) := by decide +kernel
theorem dX1_remove_8 : decode cX1_remove 8 = .ok (.iload_n 1, 1) := by decide +kernel
theorem dX1_remove_9 : decode cX1_remove 9 = .ok (.istore_n 2, 1) := by decide +kernel
theorem dX1_remove_10 : decode cX1_remove 10 = .ok (.iload_n 2, 1) := by decide +kernel
theorem dX1_remove_11 : decode cX1_remove 11 = .ok (.aload_n 0, 1) := by decide +kernel
theorem dX1_remove_12 : decode cX1_remove 12 = .ok (.getfield 30, 3) := by decide +kernel
theorem dX1_remove_15 : decode cX1_remove 15 = .ok (.iconst 1, 1) := by decide +kernel
theorem dX1_remove_16 : decode cX1_remove 16 = .ok (.isub, 1) := by decide +kernel
theorem dX1_remove_17 : decode cX1_remove 17 = .ok (.if_icmp .ge 79, 3) := by decide +kernel
theorem dX1_remove_20 : decode cX1_remove 20 = .ok (.aload_n 0, 1) := by decide +kernel
theorem dX1_remove_21 : decode cX1_remove 21 = .ok (.getfield 9, 3) := by decide +kernel
theorem dX1_remove_24 : decode cX1_remove 24 = .ok (.iload_n 2, 1) := by decide +kernel
theorem dX1_remove_25 : decode cX1_remove 25 = .ok (.aload_n 0, 1) := by decide +kernel
theorem dX1_remove_26 : decode cX1_remove 26 = .ok (.getfield 9, 3) := by decide +kernel
theorem dX1_remove_29 : decode cX1_remove 29 = .ok (.iload_n 2, 1) := by decide +kernel
theorem dX1_remove_30 : decode cX1_remove 30 = .ok (.iconst 1, 1) := by decide +kernel
theorem dX1_remove_31 : decode cX1_remove 31 = .ok (.iadd, 1) := by decide +kernel
theorem dX1_remove_32 : decode cX1_remove 32 = .ok (.iaload, 1) := by decide +kernel
theorem dX1_remove_33 : decode cX1_remove 33 = .ok (.iastore, 1) := by decide +kernel
theorem dX1_remove_34 : decode cX1_remove 34 = .ok (.aload_n 0, 1) := by decide +kernel
theorem dX1_remove_35 : decode cX1_remove 35 = .ok (.getfield 15, 3) := by decide +kernel
theorem dX1_remove_38 : decode cX1_remove 38 = .ok (.iload_n 2, 1) := by decide +kernel
theorem dX1_remove_39 : decode cX1_remove 39 = .ok (.aload_n 0, 1) := by decide +kernel
theorem dX1_remove_40 : decode cX1_remove 40 = .ok (.getfield 15, 3) := by decide +kernel
theorem dX1_remove_43 : decode cX1_remove 43 = .ok (.iload_n 2, 1) := by decide +kernel
theorem dX1_remove_44 : decode cX1_remove 44 = .ok (.iconst 1, 1) := by decide +kernel
theorem dX1_remove_45 : decode cX1_remove 45 = .ok (.iadd, 1) := by decide +kernel
theorem dX1_remove_46 : decode cX1_remove 46 = .ok (.iaload, 1) := by decide +kernel
theorem dX1_remove_47 : decode cX1_remove 47 = .ok (.iastore, 1) := by decide +kernel
theorem dX1_remove_48 : decode cX1_remove 48 = .ok (.aload_n 0, 1) := by decide +kernel
theorem dX1_remove_49 : decode cX1_remove 49 = .ok (.getfield 18, 3) := by decide +kernel
theorem dX1_remove_52 : decode cX1_remove 52 = .ok (.iload_n 2, 1) := by decide +kernel
theorem dX1_remove_53 : decode cX1_remove 53 = .ok (.aload_n 0, 1) := by decide +kernel
theorem dX1_remove_54 : decode cX1_remove 54 = .ok (.getfield 18, 3) := by decide +kernel
theorem dX1_remove_57 : decode cX1_remove 57 = .ok (.iload_n 2, 1) := by decide +kernel
theorem dX1_remove_58 : decode cX1_remove 58 = .ok (.iconst 1, 1) := by decide +kernel
theorem dX1_remove_59 : decode cX1_remove 59 = .ok (.iadd, 1) := by decide +kernel
theorem dX1_remove_60 : decode cX1_remove 60 = .ok (.iaload, 1) := by decide +kernel
theorem dX1_remove_61 : decode cX1_remove 61 = .ok (.iastore, 1) := by decide +kernel
theorem dX1_remove_62 : decode cX1_remove 62 = .ok (.aload_n 0, 1) := by decide +kernel
theorem dX1_remove_63 : decode cX1_remove 63 = .ok (.getfield 21, 3) := by decide +kernel
theorem dX1_remove_66 : decode cX1_remove 66 = .ok (.iload_n 2, 1) := by decide +kernel
theorem dX1_remove_67 : decode cX1_remove 67 = .ok (.aload_n 0, 1) := by decide +kernel
theorem dX1_remove_68 : decode cX1_remove 68 = .ok (.getfield 21, 3) := by decide +kernel
theorem dX1_remove_71 : decode cX1_remove 71 = .ok (.iload_n 2, 1) := by decide +kernel
theorem dX1_remove_72 : decode cX1_remove 72 = .ok (.iconst 1, 1) := by decide +kernel
theorem dX1_remove_73 : decode cX1_remove 73 = .ok (.iadd, 1) := by decide +kernel
theorem dX1_remove_74 : decode cX1_remove 74 = .ok (.iaload, 1) := by decide +kernel
theorem dX1_remove_75 : decode cX1_remove 75 = .ok (.iastore, 1) := by decide +kernel
theorem dX1_remove_76 : decode cX1_remove 76 = .ok (.aload_n 0, 1) := by decide +kernel
theorem dX1_remove_77 : decode cX1_remove 77 = .ok (.getfield 24, 3) := by decide +kernel
theorem dX1_remove_80 : decode cX1_remove 80 = .ok (.iload_n 2, 1) := by decide +kernel
theorem dX1_remove_81 : decode cX1_remove 81 = .ok (.aload_n 0, 1) := by decide +kernel
theorem dX1_remove_82 : decode cX1_remove 82 = .ok (.getfield 24, 3) := by decide +kernel
theorem dX1_remove_85 : decode cX1_remove 85 = .ok (.iload_n 2, 1) := by decide +kernel
theorem dX1_remove_86 : decode cX1_remove 86 = .ok (.iconst 1, 1) := by decide +kernel
theorem dX1_remove_87 : decode cX1_remove 87 = .ok (.iadd, 1) := by decide +kernel
theorem dX1_remove_88 : decode cX1_remove 88 = .ok (.iaload, 1) := by decide +kernel
theorem dX1_remove_89 : decode cX1_remove 89 = .ok (.iastore, 1) := by decide +kernel
theorem dX1_remove_90 : decode cX1_remove 90 = .ok (.iinc 2 1, 3) := by decide +kernel
theorem dX1_remove_93 : decode cX1_remove 93 = .ok (.goto (-83), 3) := by decide +kernel
theorem dX1_remove_96 : decode cX1_remove 96 = .ok (.aload_n 0, 1) := by decide +kernel
theorem dX1_remove_97 : decode cX1_remove 97 = .ok (.dup, 1) := by decide +kernel
theorem dX1_remove_98 : decode cX1_remove 98 = .ok (.getfield 30, 3) := by decide +kernel
theorem dX1_remove_101 : decode cX1_remove 101 = .ok (.iconst 1, 1) := by decide +kernel
theorem dX1_remove_102 : decode cX1_remove 102 = .ok (.isub, 1) := by decide +kernel
theorem dX1_remove_103 : decode cX1_remove 103 = .ok (.putfield 30, 3) := by decide +kernel
theorem dX1_remove_106 : decode cX1_remove 106 = .ok (.return_, 1) := by decide +kernel
theorem dX1_ringIn_0 : decode cX1_ringIn 0 = .ok (.iconst 0, 1) := by decide +kernel
theorem dX1_ringIn_1 : decode cX1_ringIn 1 = .ok (.istore_n 2, 1) := by decide +kernel
theorem dX1_ringIn_2 : decode cX1_ringIn 2 = .ok (.iload_n 2, 1) := by decide +kernel
theorem dX1_ringIn_3 : decode cX1_ringIn 3 = .ok (.aload_n 0, 1) := by decide +kernel
theorem dX1_ringIn_4 : decode cX1_ringIn 4 = .ok (.getfield 30, 3) := by decide +kernel
theorem dX1_ringIn_7 : decode cX1_ringIn 7 = .ok (.if_icmp .ge 21, 3) := by decide +kernel
theorem dX1_ringIn_10 : decode cX1_ringIn 10 = .ok (.aload_n 0, 1) := by decide +kernel
theorem dX1_ringIn_11 : decode cX1_ringIn 11 = .ok (.getfield 15, 3) := by decide +kernel
theorem dX1_ringIn_14 : decode cX1_ringIn 14 = .ok (.iload_n 2, 1) := by decide +kernel
theorem dX1_ringIn_15 : decode cX1_ringIn 15 = .ok (.iaload, 1) := by decide +kernel
theorem dX1_ringIn_16 : decode cX1_ringIn 16 = .ok (.iload_n 1, 1) := by decide +kernel
theorem dX1_ringIn_17 : decode cX1_ringIn 17 = .ok (.if_icmp .ne 5, 3) := by decide +kernel
theorem dX1_ringIn_20 : decode cX1_ringIn 20 = .ok (.iload_n 2, 1) := by decide +kernel
theorem dX1_ringIn_21 : decode cX1_ringIn 21 = .ok (.ireturn, 1) := by decide +kernel
theorem dX1_ringIn_22 : decode cX1_ringIn 22 = .ok (.iinc 2 1, 3) := by decide +kernel
theorem dX1_ringIn_25 : decode cX1_ringIn 25 = .ok (.goto (-23), 3) := by decide +kernel
theorem dX1_ringIn_28 : decode cX1_ringIn 28 = .ok (.bipush (-9), 2) := by decide +kernel
theorem dX1_ringIn_30 : decode cX1_ringIn 30 = .ok (.ireturn, 1) := by decide +kernel
set_option maxRecDepth 20000 in
theorem ggX1_firstFree_X1_ringIn : GoodIn wsX1_firstFree wsX1_ringIn := goodIn_r _ [5, 6, 7, 8, 9, 10, 11, 12, 13, 14, 15, 16, 17, 18, 19] (by decide +kernel) (by decide +kernel)
set_option maxRecDepth 20000 in
theorem gX1_firstFree_X1_ringIn : GoodIn wsX1_firstFree (wsV RX1 55 RX1 yX1_ringIn wsX1_ringIn) := goodIn_app (goodIn_of _ (by decide +kernel)) ggX1_firstFree_X1_ringIn
theorem dX1_firstFree_0 : decode cX1_firstFree 0 = .ok (.iconst 0, 1) := by decide +kernel
theorem dX1_firstFree_1 : decode cX1_firstFree 1 = .ok (.istore_n 1, 1) := by decide +kernel
theorem dX1_firstFree_2 : decode cX1_firstFree 2 = .ok (.iload_n 1, 1) := by decide +kernel
theorem dX1_firstFree_3 : decode cX1_firstFree 3 = .ok (.bipush 100, 2) := by decide +kernel
theorem dX1_firstFree_5 : decode cX1_firstFree 5 = .ok (.if_icmp .ge 21, 3) := by decide +kernel
theorem dX1_firstFree_8 : decode cX1_firstFree 8 = .ok (.aload_n 0, 1) := by decide +kernel
theorem dX1_firstFree_9 : decode cX1_firstFree 9 = .ok (.iload_n 1, 1) := by decide +kernel
theorem dX1_firstFree_10 : decode cX1_firstFree 10 = .ok (.invokevirtual 55, 3) := by decide +kernel
theorem dX1_firstFree_13 : decode cX1_firstFree 13 = .ok (.bipush (-9), 2) := by decide +kernel
theorem dX1_firstFree_15 : decode cX1_firstFree 15 = .ok (.if_icmp .ne 5, 3) := by decide +kernel
theorem dX1_firstFree_18 : decode cX1_firstFree 18 = .ok (.iload_n 1, 1) := by decide +kernel
theorem dX1_firstFree_19 : decode cX1_firstFree 19 = .ok (.ireturn, 1) := by decide +kernel
theorem dX1_firstFree_20 : decode cX1_firstFree 20 = .ok (.iinc 1 1, 3) := by decide +kernel
theorem dX1_firstFree_23 : decode cX1_firstFree 23 = .ok (.goto (-21), 3) := by decide +kernel
theorem dX1_firstFree_26 : decode cX1_firstFree 26 = .ok (.bipush (-9), 2) := by decide +kernel
theorem dX1_firstFree_28 : decode cX1_firstFree 28 = .ok (.ireturn, 1) := by decide +kernel
set_option maxRecDepth 20000 in
theorem ggX1_squareToRings_X6_squareApart : GoodIn wsX1_squareToRings wsX6_squareApart := goodIn_r _ [9] (by decide +kernel) (by decide +kernel)
set_option maxRecDepth 20000 in
theorem gX1_squareToRings_X6_squareApart_n59 : GoodIn wsX1_squareToRings (wsX6_squareApart) := ggX1_squareToRings_X6_squareApart
theorem dX1_squareToRings_0 : decode cX1_squareToRings 0 = .ok (.sipush 1000, 3) := by decide +kernel
theorem dX1_squareToRings_3 : decode cX1_squareToRings 3 = .ok (.istore_n 2, 1) := by decide +kernel
theorem dX1_squareToRings_4 : decode cX1_squareToRings 4 = .ok (.iconst 0, 1) := by decide +kernel
theorem dX1_squareToRings_5 : decode cX1_squareToRings 5 = .ok (.istore_n 3, 1) := by decide +kernel
theorem dX1_squareToRings_6 : decode cX1_squareToRings 6 = .ok (.iload_n 3, 1) := by decide +kernel
theorem dX1_squareToRings_7 : decode cX1_squareToRings 7 = .ok (.aload_n 0, 1) := by decide +kernel
theorem dX1_squareToRings_8 : decode cX1_squareToRings 8 = .ok (.getfield 30, 3) := by decide +kernel
theorem dX1_squareToRings_11 : decode cX1_squareToRings 11 = .ok (.if_icmp .ge 24, 3) := by decide +kernel
theorem dX1_squareToRings_14 : decode cX1_squareToRings 14 = .ok (.iload_n 2, 1) := by decide +kernel
theorem dX1_squareToRings_15 : decode cX1_squareToRings 15 = .ok (.iload_n 1, 1) := by decide +kernel
theorem dX1_squareToRings_16 : decode cX1_squareToRings 16 = .ok (.aload_n 0, 1) := by decide +kernel
theorem dX1_squareToRings_17 : decode cX1_squareToRings 17 = .ok (.getfield 15, 3) := by decide +kernel
theorem dX1_squareToRings_20 : decode cX1_squareToRings 20 = .ok (.iload_n 3, 1) := by decide +kernel
theorem dX1_squareToRings_21 : decode cX1_squareToRings 21 = .ok (.iaload, 1) := by decide +kernel
theorem dX1_squareToRings_22 : decode cX1_squareToRings 22 = .ok (.invokestatic 59, 3) := by decide +kernel
theorem dX1_squareToRings_25 : decode cX1_squareToRings 25 = .ok (.invokestatic 63, 3) := by decide +kernel
theorem dX1_squareToRings_28 : decode cX1_squareToRings 28 = .ok (.istore_n 2, 1) := by decide +kernel
theorem dX1_squareToRings_29 : decode cX1_squareToRings 29 = .ok (.iinc 3 1, 3) := by decide +kernel
theorem dX1_squareToRings_32 : decode cX1_squareToRings 32 = .ok (.goto (-26), 3) := by decide +kernel
theorem dX1_squareToRings_35 : decode cX1_squareToRings 35 = .ok (.iload_n 2, 1) := by decide +kernel
theorem dX1_squareToRings_36 : decode cX1_squareToRings 36 = .ok (.ireturn, 1) := by decide +kernel
theorem dX1_speakAll_0 : decode cX1_speakAll 0 = .ok (.iconst 0, 1) := by decide +kernel
theorem dX1_speakAll_1 : decode cX1_speakAll 1 = .ok (.istore_n 2, 1) := by decide +kernel
theorem dX1_speakAll_2 : decode cX1_speakAll 2 = .ok (.iconst 0, 1) := by decide +kernel
theorem dX1_speakAll_3 : decode cX1_speakAll 3 = .ok (.istore_n 3, 1) := by decide +kernel
theorem dX1_speakAll_4 : decode cX1_speakAll 4 = .ok (.iload_n 3, 1) := by decide +kernel
theorem dX1_speakAll_5 : decode cX1_speakAll 5 = .ok (.aload_n 0, 1) := by decide +kernel
theorem dX1_speakAll_6 : decode cX1_speakAll 6 = .ok (.getfield 30, 3) := by decide +kernel
theorem dX1_speakAll_9 : decode cX1_speakAll 9 = .ok (.if_icmp .ge 29, 3) := by decide +kernel
theorem dX1_speakAll_12 : decode cX1_speakAll 12 = .ok (.aload_n 0, 1) := by decide +kernel
theorem dX1_speakAll_13 : decode cX1_speakAll 13 = .ok (.getfield 21, 3) := by decide +kernel
theorem dX1_speakAll_16 : decode cX1_speakAll 16 = .ok (.iload_n 3, 1) := by decide +kernel
theorem dX1_speakAll_17 : decode cX1_speakAll 17 = .ok (.iaload, 1) := by decide +kernel
theorem dX1_speakAll_18 : decode cX1_speakAll 18 = .ok (.iload_n 1, 1) := by decide +kernel
theorem dX1_speakAll_19 : decode cX1_speakAll 19 = .ok (.if_icmp .eq 6, 3) := by decide +kernel
theorem dX1_speakAll_22 : decode cX1_speakAll 22 = .ok (.iinc 2 1, 3) := by decide +kernel
theorem dX1_speakAll_25 : decode cX1_speakAll 25 = .ok (.aload_n 0, 1) := by decide +kernel
theorem dX1_speakAll_26 : decode cX1_speakAll 26 = .ok (.getfield 21, 3) := by decide +kernel
theorem dX1_speakAll_29 : decode cX1_speakAll 29 = .ok (.iload_n 3, 1) := by decide +kernel
theorem dX1_speakAll_30 : decode cX1_speakAll 30 = .ok (.iload_n 1, 1) := by decide +kernel
theorem dX1_speakAll_31 : decode cX1_speakAll 31 = .ok (.iastore, 1) := by decide +kernel
theorem dX1_speakAll_32 : decode cX1_speakAll 32 = .ok (.iinc 3 1, 3) := by decide +kernel
theorem dX1_speakAll_35 : decode cX1_speakAll 35 = .ok (.goto (-31), 3) := by decide +kernel
theorem dX1_speakAll_38 : decode cX1_speakAll 38 = .ok (.iload_n 2, 1) := by decide +kernel
theorem dX1_speakAll_39 : decode cX1_speakAll 39 = .ok (.ireturn, 1) := by decide +kernel
theorem dX1_peopleAll_0 : decode cX1_peopleAll 0 = .ok (.iconst 0, 1) := by decide +kernel
theorem dX1_peopleAll_1 : decode cX1_peopleAll 1 = .ok (.istore_n 1, 1) := by decide +kernel
theorem dX1_peopleAll_2 : decode cX1_peopleAll 2 = .ok (.iconst 0, 1) := by decide +kernel
theorem dX1_peopleAll_3 : decode cX1_peopleAll 3 = .ok (.istore_n 2, 1) := by decide +kernel
theorem dX1_peopleAll_4 : decode cX1_peopleAll 4 = .ok (.iload_n 2, 1) := by decide +kernel
theorem dX1_peopleAll_5 : decode cX1_peopleAll 5 = .ok (.aload_n 0, 1) := by decide +kernel
theorem dX1_peopleAll_6 : decode cX1_peopleAll 6 = .ok (.getfield 30, 3) := by decide +kernel
theorem dX1_peopleAll_9 : decode cX1_peopleAll 9 = .ok (.if_icmp .ge 18, 3) := by decide +kernel
theorem dX1_peopleAll_12 : decode cX1_peopleAll 12 = .ok (.iload_n 1, 1) := by decide +kernel
theorem dX1_peopleAll_13 : decode cX1_peopleAll 13 = .ok (.aload_n 0, 1) := by decide +kernel
theorem dX1_peopleAll_14 : decode cX1_peopleAll 14 = .ok (.getfield 18, 3) := by decide +kernel
theorem dX1_peopleAll_17 : decode cX1_peopleAll 17 = .ok (.iload_n 2, 1) := by decide +kernel
theorem dX1_peopleAll_18 : decode cX1_peopleAll 18 = .ok (.iaload, 1) := by decide +kernel
theorem dX1_peopleAll_19 : decode cX1_peopleAll 19 = .ok (.iadd, 1) := by decide +kernel
theorem dX1_peopleAll_20 : decode cX1_peopleAll 20 = .ok (.istore_n 1, 1) := by decide +kernel
theorem dX1_peopleAll_21 : decode cX1_peopleAll 21 = .ok (.iinc 2 1, 3) := by decide +kernel
theorem dX1_peopleAll_24 : decode cX1_peopleAll 24 = .ok (.goto (-20), 3) := by decide +kernel
theorem dX1_peopleAll_27 : decode cX1_peopleAll 27 = .ok (.iload_n 1, 1) := by decide +kernel
theorem dX1_peopleAll_28 : decode cX1_peopleAll 28 = .ok (.ireturn, 1) := by decide +kernel
theorem dX1_loudOf_0 : decode cX1_loudOf 0 = .ok (.aload_n 0, 1) := by decide +kernel
theorem dX1_loudOf_1 : decode cX1_loudOf 1 = .ok (.getfield 18, 3) := by decide +kernel
theorem dX1_loudOf_4 : decode cX1_loudOf 4 = .ok (.iload_n 1, 1) := by decide +kernel
theorem dX1_loudOf_5 : decode cX1_loudOf 5 = .ok (.iaload, 1) := by decide +kernel
theorem dX1_loudOf_6 : decode cX1_loudOf 6 = .ok (.iconst 1, 1) := by decide +kernel
theorem dX1_loudOf_7 : decode cX1_loudOf 7 = .ok (.if_icmp .eq 15, 3) := by decide +kernel
theorem dX1_loudOf_10 : decode cX1_loudOf 10 = .ok (.aload_n 0, 1) := by decide +kernel
theorem dX1_loudOf_11 : decode cX1_loudOf 11 = .ok (.getfield 44, 3) := by decide +kernel
theorem dX1_loudOf_14 : decode cX1_loudOf 14 = .ok (.iload_n 1, 1) := by decide +kernel
theorem dX1_loudOf_15 : decode cX1_loudOf 15 = .ok (.ishr, 1) := by decide +kernel
theorem dX1_loudOf_16 : decode cX1_loudOf 16 = .ok (.iconst 1, 1) := by decide +kernel
theorem dX1_loudOf_17 : decode cX1_loudOf 17 = .ok (.iand, 1) := by decide +kernel
theorem dX1_loudOf_18 : decode cX1_loudOf 18 = .ok (.iconst 1, 1) := by decide +kernel
theorem dX1_loudOf_19 : decode cX1_loudOf 19 = .ok (.if_icmp .ne 7, 3) := by decide +kernel
theorem dX1_loudOf_22 : decode cX1_loudOf 22 = .ok (.iconst 0, 1) := by decide +kernel
theorem dX1_loudOf_23 : decode cX1_loudOf 23 = .ok (.goto 11, 3) := by decide +kernel
theorem dX1_loudOf_26 : decode cX1_loudOf 26 = .ok (.iconst 1, 1) := by decide +kernel
theorem dX1_loudOf_27 : decode cX1_loudOf 27 = .ok (.aload_n 0, 1) := by decide +kernel
theorem dX1_loudOf_28 : decode cX1_loudOf 28 = .ok (.getfield 21, 3) := by decide +kernel
theorem dX1_loudOf_31 : decode cX1_loudOf 31 = .ok (.iload_n 1, 1) := by decide +kernel
theorem dX1_loudOf_32 : decode cX1_loudOf 32 = .ok (.iaload, 1) := by decide +kernel
theorem dX1_loudOf_33 : decode cX1_loudOf 33 = .ok (.ishl, 1) := by decide +kernel
theorem dX1_loudOf_34 : decode cX1_loudOf 34 = .ok (.ireturn, 1) := by decide +kernel
set_option maxRecDepth 20000 in
theorem ggX1_loudAll_X1_loudOf : GoodIn wsX1_loudAll wsX1_loudOf := goodIn_r _ [6, 7, 8, 9, 10, 11, 12, 13, 14, 15, 16, 17, 18, 19, 20, 21] (by decide +kernel) (by decide +kernel)
set_option maxRecDepth 20000 in
theorem gX1_loudAll_X1_loudOf : GoodIn wsX1_loudAll (wsV RX1 68 RX1 yX1_loudOf wsX1_loudOf) := goodIn_app (goodIn_of _ (by decide +kernel)) ggX1_loudAll_X1_loudOf
theorem dX1_loudAll_0 : decode cX1_loudAll 0 = .ok (.iconst 0, 1) := by decide +kernel
theorem dX1_loudAll_1 : decode cX1_loudAll 1 = .ok (.istore_n 1, 1) := by decide +kernel
theorem dX1_loudAll_2 : decode cX1_loudAll 2 = .ok (.iconst 0, 1) := by decide +kernel
theorem dX1_loudAll_3 : decode cX1_loudAll 3 = .ok (.istore_n 2, 1) := by decide +kernel
theorem dX1_loudAll_4 : decode cX1_loudAll 4 = .ok (.iload_n 2, 1) := by decide +kernel
theorem dX1_loudAll_5 : decode cX1_loudAll 5 = .ok (.aload_n 0, 1) := by decide +kernel
theorem dX1_loudAll_6 : decode cX1_loudAll 6 = .ok (.getfield 30, 3) := by decide +kernel
theorem dX1_loudAll_9 : decode cX1_loudAll 9 = .ok (.if_icmp .ge 17, 3) := by decide +kernel
theorem dX1_loudAll_12 : decode cX1_loudAll 12 = .ok (.iload_n 1, 1) := by decide +kernel
theorem dX1_loudAll_13 : decode cX1_loudAll 13 = .ok (.aload_n 0, 1) := by decide +kernel
theorem dX1_loudAll_14 : decode cX1_loudAll 14 = .ok (.iload_n 2, 1) := by decide +kernel
theorem dX1_loudAll_15 : decode cX1_loudAll 15 = .ok (.invokevirtual 68, 3) := by decide +kernel
theorem dX1_loudAll_18 : decode cX1_loudAll 18 = .ok (.iadd, 1) := by decide +kernel
theorem dX1_loudAll_19 : decode cX1_loudAll 19 = .ok (.istore_n 1, 1) := by decide +kernel
theorem dX1_loudAll_20 : decode cX1_loudAll 20 = .ok (.iinc 2 1, 3) := by decide +kernel
theorem dX1_loudAll_23 : decode cX1_loudAll 23 = .ok (.goto (-19), 3) := by decide +kernel
theorem dX1_loudAll_26 : decode cX1_loudAll 26 = .ok (.iload_n 1, 1) := by decide +kernel
theorem dX1_loudAll_27 : decode cX1_loudAll 27 = .ok (.ireturn, 1) := by decide +kernel
theorem dX1_loudMusic_0 : decode cX1_loudMusic 0 = .ok (.aload_n 0, 1) := by decide +kernel
theorem dX1_loudMusic_1 : decode cX1_loudMusic 1 = .ok (.getfield 37, 3) := by decide +kernel
theorem dX1_loudMusic_4 : decode cX1_loudMusic 4 = .ok (.ifCond .ne 7, 3) := by decide +kernel
theorem dX1_loudMusic_7 : decode cX1_loudMusic 7 = .ok (.iconst 0, 1) := by decide +kernel
theorem dX1_loudMusic_8 : decode cX1_loudMusic 8 = .ok (.goto 9, 3) := by decide +kernel
theorem dX1_loudMusic_11 : decode cX1_loudMusic 11 = .ok (.iconst 1, 1) := by decide +kernel
theorem dX1_loudMusic_12 : decode cX1_loudMusic 12 = .ok (.aload_n 0, 1) := by decide +kernel
theorem dX1_loudMusic_13 : decode cX1_loudMusic 13 = .ok (.getfield 37, 3) := by decide +kernel
theorem dX1_loudMusic_16 : decode cX1_loudMusic 16 = .ok (.ishl, 1) := by decide +kernel
theorem dX1_loudMusic_17 : decode cX1_loudMusic 17 = .ok (.ireturn, 1) := by decide +kernel
set_option maxRecDepth 20000 in
theorem ggX1_echoing_X1_loudAll : GoodIn wsX1_echoing wsX1_loudAll := goodIn_r _ [10, 11, 12, 13, 14, 9, 15, 16, 17, 18, 24, 25, 26, 27, 28, 29, 30, 31, 32, 33, 34, 35] (by decide +kernel) (by decide +kernel)
set_option maxRecDepth 20000 in
theorem gX1_echoing_X1_loudAll : GoodIn wsX1_echoing (wsV RX1 71 RX1 yX1_loudAll wsX1_loudAll) := goodIn_app (goodIn_of _ (by decide +kernel)) ggX1_echoing_X1_loudAll
set_option maxRecDepth 20000 in
theorem ggX1_echoing_X1_loudMusic : GoodIn wsX1_echoing wsX1_loudMusic := goodIn_r _ [22, 23, 24, 25, 26, 27, 28, 29, 30, 31, 32, 33, 34, 35] (by decide +kernel) (by decide +kernel)
set_option maxRecDepth 20000 in
theorem gX1_echoing_X1_loudMusic : GoodIn wsX1_echoing (wsV RX1 75 RX1 yX1_loudMusic wsX1_loudMusic) := goodIn_app (goodIn_of _ (by decide +kernel)) ggX1_echoing_X1_loudMusic
theorem dX1_echoing_0 : decode cX1_echoing 0 = .ok (.aload_n 0, 1) := by decide +kernel
theorem dX1_echoing_1 : decode cX1_echoing 1 = .ok (.invokevirtual 71, 3) := by decide +kernel
theorem dX1_echoing_4 : decode cX1_echoing 4 = .ok (.aload_n 0, 1) := by decide +kernel
theorem dX1_echoing_5 : decode cX1_echoing 5 = .ok (.invokevirtual 75, 3) := by decide +kernel
theorem dX1_echoing_8 : decode cX1_echoing 8 = .ok (.iadd, 1) := by decide +kernel
theorem dX1_echoing_9 : decode cX1_echoing 9 = .ok (.iconst 0, 1) := by decide +kernel
theorem dX1_echoing_10 : decode cX1_echoing 10 = .ok (.bipush 10, 2) := by decide +kernel
theorem dX1_echoing_12 : decode cX1_echoing 12 = .ok (.aload_n 0, 1) := by decide +kernel
theorem dX1_echoing_13 : decode cX1_echoing 13 = .ok (.getfield 34, 3) := by decide +kernel
theorem dX1_echoing_16 : decode cX1_echoing 16 = .ok (.isub, 1) := by decide +kernel
theorem dX1_echoing_17 : decode cX1_echoing 17 = .ok (.invokestatic 78, 3) := by decide +kernel
theorem dX1_echoing_20 : decode cX1_echoing 20 = .ok (.imul, 1) := by decide +kernel
theorem dX1_echoing_21 : decode cX1_echoing 21 = .ok (.bipush 10, 2) := by decide +kernel
theorem dX1_echoing_23 : decode cX1_echoing 23 = .ok (.idiv, 1) := by decide +kernel
theorem dX1_echoing_24 : decode cX1_echoing 24 = .ok (.ireturn, 1) := by decide +kernel
set_option maxRecDepth 20000 in
theorem ggX1_fromRing_X6_squareApart : GoodIn wsX1_fromRing wsX6_squareApart := goodIn_r _ [4] (by decide +kernel) (by decide +kernel)
set_option maxRecDepth 20000 in
theorem gX1_fromRing_X6_squareApart_n59 : GoodIn wsX1_fromRing (wsX6_squareApart) := ggX1_fromRing_X6_squareApart
set_option maxRecDepth 20000 in
theorem ggX1_fromRing_X1_loudOf : GoodIn wsX1_fromRing wsX1_loudOf := goodIn_r _ [9, 10, 11, 12, 13, 14, 15, 16, 17, 18, 19, 20, 21, 22, 23, 24] (by decide +kernel) (by decide +kernel)
set_option maxRecDepth 20000 in
theorem gX1_fromRing_X1_loudOf : GoodIn wsX1_fromRing (wsV RX1 68 RX1 yX1_loudOf wsX1_loudOf) := goodIn_app (goodIn_of _ (by decide +kernel)) ggX1_fromRing_X1_loudOf
theorem dX1_fromRing_0 : decode cX1_fromRing 0 = .ok (.iload_n 2, 1) := by decide +kernel
theorem dX1_fromRing_1 : decode cX1_fromRing 1 = .ok (.aload_n 0, 1) := by decide +kernel
theorem dX1_fromRing_2 : decode cX1_fromRing 2 = .ok (.getfield 15, 3) := by decide +kernel
theorem dX1_fromRing_5 : decode cX1_fromRing 5 = .ok (.iload_n 1, 1) := by decide +kernel
theorem dX1_fromRing_6 : decode cX1_fromRing 6 = .ok (.iaload, 1) := by decide +kernel
theorem dX1_fromRing_7 : decode cX1_fromRing 7 = .ok (.invokestatic 59, 3) := by decide +kernel
theorem dX1_fromRing_10 : decode cX1_fromRing 10 = .ok (.istore_n 3, 1) := by decide +kernel
theorem dX1_fromRing_11 : decode cX1_fromRing 11 = .ok (.iload_n 3, 1) := by decide +kernel
theorem dX1_fromRing_12 : decode cX1_fromRing 12 = .ok (.ifCond .ne 7, 3) := by decide +kernel
theorem dX1_fromRing_15 : decode cX1_fromRing 15 = .ok (.iconst 0, 1) := by decide +kernel
theorem dX1_fromRing_16 : decode cX1_fromRing 16 = .ok (.goto 12, 3) := by decide +kernel
theorem dX1_fromRing_19 : decode cX1_fromRing 19 = .ok (.aload_n 0, 1) := by decide +kernel
theorem dX1_fromRing_20 : decode cX1_fromRing 20 = .ok (.iload_n 1, 1) := by decide +kernel
theorem dX1_fromRing_21 : decode cX1_fromRing 21 = .ok (.invokevirtual 68, 3) := by decide +kernel
theorem dX1_fromRing_24 : decode cX1_fromRing 24 = .ok (.iconst 4, 1) := by decide +kernel
theorem dX1_fromRing_25 : decode cX1_fromRing 25 = .ok (.imul, 1) := by decide +kernel
theorem dX1_fromRing_26 : decode cX1_fromRing 26 = .ok (.iload_n 3, 1) := by decide +kernel
theorem dX1_fromRing_27 : decode cX1_fromRing 27 = .ok (.idiv, 1) := by decide +kernel
theorem dX1_fromRing_28 : decode cX1_fromRing 28 = .ok (.ireturn, 1) := by decide +kernel
set_option maxRecDepth 20000 in
theorem ggX1_fromAll_X1_fromRing : GoodIn wsX1_fromAll wsX1_fromRing := goodIn_r _ [6, 7, 8, 9, 10, 11, 12, 13, 5, 14, 15, 16, 17, 18, 19, 20, 21, 22, 23, 24, 25, 26, 27, 28, 29] (by decide +kernel) (by decide +kernel)
set_option maxRecDepth 20000 in
theorem gX1_fromAll_X1_fromRing : GoodIn wsX1_fromAll (wsV RX1 81 RX1 yX1_fromRing wsX1_fromRing) := goodIn_app (goodIn_of _ (by decide +kernel)) ggX1_fromAll_X1_fromRing
theorem dX1_fromAll_0 : decode cX1_fromAll 0 = .ok (.iconst 0, 1) := by decide +kernel
theorem dX1_fromAll_1 : decode cX1_fromAll 1 = .ok (.istore_n 2, 1) := by decide +kernel
theorem dX1_fromAll_2 : decode cX1_fromAll 2 = .ok (.iconst 0, 1) := by decide +kernel
theorem dX1_fromAll_3 : decode cX1_fromAll 3 = .ok (.istore_n 3, 1) := by decide +kernel
theorem dX1_fromAll_4 : decode cX1_fromAll 4 = .ok (.iload_n 3, 1) := by decide +kernel
theorem dX1_fromAll_5 : decode cX1_fromAll 5 = .ok (.aload_n 0, 1) := by decide +kernel
theorem dX1_fromAll_6 : decode cX1_fromAll 6 = .ok (.getfield 30, 3) := by decide +kernel
theorem dX1_fromAll_9 : decode cX1_fromAll 9 = .ok (.if_icmp .ge 18, 3) := by decide +kernel
theorem dX1_fromAll_12 : decode cX1_fromAll 12 = .ok (.iload_n 2, 1) := by decide +kernel
theorem dX1_fromAll_13 : decode cX1_fromAll 13 = .ok (.aload_n 0, 1) := by decide +kernel
theorem dX1_fromAll_14 : decode cX1_fromAll 14 = .ok (.iload_n 3, 1) := by decide +kernel
theorem dX1_fromAll_15 : decode cX1_fromAll 15 = .ok (.iload_n 1, 1) := by decide +kernel
theorem dX1_fromAll_16 : decode cX1_fromAll 16 = .ok (.invokevirtual 81, 3) := by decide +kernel
theorem dX1_fromAll_19 : decode cX1_fromAll 19 = .ok (.iadd, 1) := by decide +kernel
theorem dX1_fromAll_20 : decode cX1_fromAll 20 = .ok (.istore_n 2, 1) := by decide +kernel
theorem dX1_fromAll_21 : decode cX1_fromAll 21 = .ok (.iinc 3 1, 3) := by decide +kernel
theorem dX1_fromAll_24 : decode cX1_fromAll 24 = .ok (.goto (-20), 3) := by decide +kernel
theorem dX1_fromAll_27 : decode cX1_fromAll 27 = .ok (.iload_n 2, 1) := by decide +kernel
theorem dX1_fromAll_28 : decode cX1_fromAll 28 = .ok (.ireturn, 1) := by decide +kernel
set_option maxRecDepth 20000 in
theorem ggX1_noiseAt_X1_echoing : GoodIn wsX1_noiseAt wsX1_echoing := goodIn_r _ [5, 6, 7, 8, 9, 10, 11, 12, 13, 4, 14, 15, 16, 17, 18, 19, 20, 21, 22, 23, 24, 25, 26, 27, 40, 41, 42, 43, 44, 45, 46, 47, 48, 49, 50, 51] (by decide +kernel) (by decide +kernel)
set_option maxRecDepth 20000 in
theorem gX1_noiseAt_X1_echoing : GoodIn wsX1_noiseAt (wsV RX1 84 RX1 yX1_echoing wsX1_echoing) := goodIn_app (goodIn_of _ (by decide +kernel)) ggX1_noiseAt_X1_echoing
set_option maxRecDepth 20000 in
theorem ggX1_noiseAt_X1_fromAll : GoodIn wsX1_noiseAt wsX1_fromAll := goodIn_r _ [31, 15, 32, 33, 34, 4, 35, 36, 37, 38, 39, 16, 17, 18, 19, 20, 21, 22, 40, 41, 42, 43, 44, 45, 46, 47, 48, 49, 50, 51] (by decide +kernel) (by decide +kernel)
set_option maxRecDepth 20000 in
theorem gX1_noiseAt_X1_fromAll : GoodIn wsX1_noiseAt (wsV RX1 87 RX1 yX1_fromAll wsX1_fromAll) := goodIn_app (goodIn_of _ (by decide +kernel)) ggX1_noiseAt_X1_fromAll
theorem dX1_noiseAt_0 : decode cX1_noiseAt 0 = .ok (.aload_n 0, 1) := by decide +kernel
theorem dX1_noiseAt_1 : decode cX1_noiseAt 1 = .ok (.invokevirtual 84, 3) := by decide +kernel
theorem dX1_noiseAt_4 : decode cX1_noiseAt 4 = .ok (.aload_n 0, 1) := by decide +kernel
theorem dX1_noiseAt_5 : decode cX1_noiseAt 5 = .ok (.iload_n 1, 1) := by decide +kernel
theorem dX1_noiseAt_6 : decode cX1_noiseAt 6 = .ok (.invokevirtual 87, 3) := by decide +kernel
theorem dX1_noiseAt_9 : decode cX1_noiseAt 9 = .ok (.iadd, 1) := by decide +kernel
theorem dX1_noiseAt_10 : decode cX1_noiseAt 10 = .ok (.ireturn, 1) := by decide +kernel
theorem dX1_soundBy_0 : decode cX1_soundBy 0 = .ok (.aload_n 0, 1) := by decide +kernel
theorem dX1_soundBy_1 : decode cX1_soundBy 1 = .ok (.getfield 9, 3) := by decide +kernel
theorem dX1_soundBy_4 : decode cX1_soundBy 4 = .ok (.iload_n 1, 1) := by decide +kernel
theorem dX1_soundBy_5 : decode cX1_soundBy 5 = .ok (.iaload, 1) := by decide +kernel
theorem dX1_soundBy_6 : decode cX1_soundBy 6 = .ok (.iconst 3, 1) := by decide +kernel
theorem dX1_soundBy_7 : decode cX1_soundBy 7 = .ok (.if_icmp .ne 14, 3) := by decide +kernel
theorem dX1_soundBy_10 : decode cX1_soundBy 10 = .ok (.aload_n 0, 1) := by decide +kernel
theorem dX1_soundBy_11 : decode cX1_soundBy 11 = .ok (.getfield 18, 3) := by decide +kernel
theorem dX1_soundBy_14 : decode cX1_soundBy 14 = .ok (.iload_n 1, 1) := by decide +kernel
theorem dX1_soundBy_15 : decode cX1_soundBy 15 = .ok (.iaload, 1) := by decide +kernel
theorem dX1_soundBy_16 : decode cX1_soundBy 16 = .ok (.iconst 2, 1) := by decide +kernel
theorem dX1_soundBy_17 : decode cX1_soundBy 17 = .ok (.isub, 1) := by decide +kernel
theorem dX1_soundBy_18 : decode cX1_soundBy 18 = .ok (.goto 9, 3) := by decide +kernel
theorem dX1_soundBy_21 : decode cX1_soundBy 21 = .ok (.aload_n 0, 1) := by decide +kernel
theorem dX1_soundBy_22 : decode cX1_soundBy 22 = .ok (.getfield 18, 3) := by decide +kernel
theorem dX1_soundBy_25 : decode cX1_soundBy 25 = .ok (.iload_n 1, 1) := by decide +kernel
theorem dX1_soundBy_26 : decode cX1_soundBy 26 = .ok (.iaload, 1) := by decide +kernel
theorem dX1_soundBy_27 : decode cX1_soundBy 27 = .ok (.istore_n 3, 1) := by decide +kernel
theorem dX1_soundBy_28 : decode cX1_soundBy 28 = .ok (.iload_n 2, 1) := by decide +kernel
theorem dX1_soundBy_29 : decode cX1_soundBy 29 = .ok (.bipush 8, 2) := by decide +kernel
theorem dX1_soundBy_31 : decode cX1_soundBy 31 = .ok (.imul, 1) := by decide +kernel
theorem dX1_soundBy_32 : decode cX1_soundBy 32 = .ok (.iconst 1, 1) := by decide +kernel
theorem dX1_soundBy_33 : decode cX1_soundBy 33 = .ok (.iload_n 3, 1) := by decide +kernel
theorem dX1_soundBy_34 : decode cX1_soundBy 34 = .ok (.invokestatic 78, 3) := by decide +kernel
theorem dX1_soundBy_37 : decode cX1_soundBy 37 = .ok (.idiv, 1) := by decide +kernel
theorem dX1_soundBy_38 : decode cX1_soundBy 38 = .ok (.ireturn, 1) := by decide +kernel
theorem dX1_hearsAnyway_0 : decode cX1_hearsAnyway 0 = .ok (.aload_n 0, 1) := by decide +kernel
theorem dX1_hearsAnyway_1 : decode cX1_hearsAnyway 1 = .ok (.getfield 9, 3) := by decide +kernel
theorem dX1_hearsAnyway_4 : decode cX1_hearsAnyway 4 = .ok (.iload_n 1, 1) := by decide +kernel
theorem dX1_hearsAnyway_5 : decode cX1_hearsAnyway 5 = .ok (.iaload, 1) := by decide +kernel
theorem dX1_hearsAnyway_6 : decode cX1_hearsAnyway 6 = .ok (.iconst 4, 1) := by decide +kernel
theorem dX1_hearsAnyway_7 : decode cX1_hearsAnyway 7 = .ok (.if_icmp .eq 13, 3) := by decide +kernel
theorem dX1_hearsAnyway_10 : decode cX1_hearsAnyway 10 = .ok (.aload_n 0, 1) := by decide +kernel
theorem dX1_hearsAnyway_11 : decode cX1_hearsAnyway 11 = .ok (.getfield 18, 3) := by decide +kernel
theorem dX1_hearsAnyway_14 : decode cX1_hearsAnyway 14 = .ok (.iload_n 1, 1) := by decide +kernel
theorem dX1_hearsAnyway_15 : decode cX1_hearsAnyway 15 = .ok (.iaload, 1) := by decide +kernel
theorem dX1_hearsAnyway_16 : decode cX1_hearsAnyway 16 = .ok (.iconst 1, 1) := by decide +kernel
theorem dX1_hearsAnyway_17 : decode cX1_hearsAnyway 17 = .ok (.if_icmp .ne 7, 3) := by decide +kernel
theorem dX1_hearsAnyway_20 : decode cX1_hearsAnyway 20 = .ok (.iconst 1, 1) := by decide +kernel
theorem dX1_hearsAnyway_21 : decode cX1_hearsAnyway 21 = .ok (.goto 4, 3) := by decide +kernel
theorem dX1_hearsAnyway_24 : decode cX1_hearsAnyway 24 = .ok (.iconst 0, 1) := by decide +kernel
theorem dX1_hearsAnyway_25 : decode cX1_hearsAnyway 25 = .ok (.ireturn, 1) := by decide +kernel
theorem dX1_hearsBy_0 : decode cX1_hearsBy 0 = .ok (.bipush 10, 2) := by decide +kernel
theorem dX1_hearsBy_2 : decode cX1_hearsBy 2 = .ok (.iload_n 2, 1) := by decide +kernel
theorem dX1_hearsBy_3 : decode cX1_hearsBy 3 = .ok (.imul, 1) := by decide +kernel
theorem dX1_hearsBy_4 : decode cX1_hearsBy 4 = .ok (.iload_n 3, 1) := by decide +kernel
theorem dX1_hearsBy_5 : decode cX1_hearsBy 5 = .ok (.bipush 10, 2) := by decide +kernel
theorem dX1_hearsBy_7 : decode cX1_hearsBy 7 = .ok (.aload_n 0, 1) := by decide +kernel
theorem dX1_hearsBy_8 : decode cX1_hearsBy 8 = .ok (.getfield 24, 3) := by decide +kernel
theorem dX1_hearsBy_11 : decode cX1_hearsBy 11 = .ok (.iload_n 1, 1) := by decide +kernel
theorem dX1_hearsBy_12 : decode cX1_hearsBy 12 = .ok (.iaload, 1) := by decide +kernel
theorem dX1_hearsBy_13 : decode cX1_hearsBy 13 = .ok (.iadd, 1) := by decide +kernel
theorem dX1_hearsBy_14 : decode cX1_hearsBy 14 = .ok (.imul, 1) := by decide +kernel
theorem dX1_hearsBy_15 : decode cX1_hearsBy 15 = .ok (.if_icmp .lt 7, 3) := by decide +kernel
theorem dX1_hearsBy_18 : decode cX1_hearsBy 18 = .ok (.iconst 1, 1) := by decide +kernel
theorem dX1_hearsBy_19 : decode cX1_hearsBy 19 = .ok (.goto 4, 3) := by decide +kernel
theorem dX1_hearsBy_22 : decode cX1_hearsBy 22 = .ok (.iconst 0, 1) := by decide +kernel
theorem dX1_hearsBy_23 : decode cX1_hearsBy 23 = .ok (.ireturn, 1) := by decide +kernel
set_option maxRecDepth 20000 in
theorem ggX1_hears_X1_hearsAnyway : GoodIn wsX1_hears wsX1_hearsAnyway := goodIn_r _ [6, 7, 8, 58, 59, 60, 61, 62, 63, 64, 65, 66, 67, 68, 69] (by decide +kernel) (by decide +kernel)
set_option maxRecDepth 20000 in
theorem gX1_hears_X1_hearsAnyway : GoodIn wsX1_hears (wsV RX1 90 RX1 yX1_hearsAnyway wsX1_hearsAnyway) := goodIn_app (goodIn_of _ (by decide +kernel)) ggX1_hears_X1_hearsAnyway
set_option maxRecDepth 20000 in
theorem ggX1_hears_X1_loudOf : GoodIn wsX1_hears wsX1_loudOf := goodIn_r _ [12, 8, 13, 14, 58, 59, 60, 61, 62, 63, 64, 65, 66, 67, 68, 69] (by decide +kernel) (by decide +kernel)
set_option maxRecDepth 20000 in
theorem gX1_hears_X1_loudOf : GoodIn wsX1_hears (wsV RX1 68 RX1 yX1_loudOf wsX1_loudOf) := goodIn_app (goodIn_of _ (by decide +kernel)) ggX1_hears_X1_loudOf
set_option maxRecDepth 20000 in
theorem ggX1_hears_X1_soundBy : GoodIn wsX1_hears wsX1_soundBy := goodIn_r _ [18, 7, 8, 19, 20, 21, 22, 58, 59, 60, 61, 62, 63, 64, 65, 66, 67, 68, 69] (by decide +kernel) (by decide +kernel)
set_option maxRecDepth 20000 in
theorem gX1_hears_X1_soundBy : GoodIn wsX1_hears (wsV RX1 93 RX1 yX1_soundBy wsX1_soundBy) := goodIn_app (goodIn_of _ (by decide +kernel)) ggX1_hears_X1_soundBy
set_option maxRecDepth 20000 in
theorem ggX1_hears_X1_noiseAt : GoodIn wsX1_hears wsX1_noiseAt := goodIn_r _ [26, 27, 28, 29, 5, 30, 31, 19, 20, 21, 22, 32, 33, 34, 35, 36, 9, 10, 11, 12, 8, 13, 14, 37, 38, 39, 40, 41, 42, 43, 44, 45, 46, 47, 48, 49, 1, 50, 51, 52, 58, 59, 60, 61, 62, 63, 64, 65, 66, 67, 68, 69] (by decide +kernel) (by decide +kernel)
set_option maxRecDepth 20000 in
theorem gX1_hears_X1_noiseAt : GoodIn wsX1_hears (wsV RX1 96 RX1 yX1_noiseAt wsX1_noiseAt) := goodIn_app (goodIn_of _ (by decide +kernel)) ggX1_hears_X1_noiseAt
set_option maxRecDepth 20000 in
theorem ggX1_hears_X1_hearsBy : GoodIn wsX1_hears wsX1_hearsBy := goodIn_r _ [56, 57, 58, 59, 60, 61, 62, 63, 64, 65, 66, 67, 68, 69] (by decide +kernel) (by decide +kernel)
set_option maxRecDepth 20000 in
theorem gX1_hears_X1_hearsBy : GoodIn wsX1_hears (wsV RX1 99 RX1 yX1_hearsBy wsX1_hearsBy) := goodIn_app (goodIn_of _ (by decide +kernel)) ggX1_hears_X1_hearsBy
theorem dX1_hears_0 : decode cX1_hears 0 = .ok (.aload_n 0, 1) := by decide +kernel
theorem dX1_hears_1 : decode cX1_hears 1 = .ok (.iload_n 1, 1) := by decide +kernel
theorem dX1_hears_2 : decode cX1_hears 2 = .ok (.invokevirtual 90, 3) := by decide +kernel
theorem dX1_hears_5 : decode cX1_hears 5 = .ok (.ifCond .ne 31, 3) := by decide +kernel
theorem dX1_hears_8 : decode cX1_hears 8 = .ok (.aload_n 0, 1) := by decide +kernel
theorem dX1_hears_9 : decode cX1_hears 9 = .ok (.iload_n 1, 1) := by decide +kernel
theorem dX1_hears_10 : decode cX1_hears 10 = .ok (.aload_n 0, 1) := by decide +kernel
theorem dX1_hears_11 : decode cX1_hears 11 = .ok (.iload_n 1, 1) := by decide +kernel
theorem dX1_hears_12 : decode cX1_hears 12 = .ok (.aload_n 0, 1) := by decide +kernel
theorem dX1_hears_13 : decode cX1_hears 13 = .ok (.iload_n 1, 1) := by decide +kernel
theorem dX1_hears_14 : decode cX1_hears 14 = .ok (.invokevirtual 68, 3) := by decide +kernel
theorem dX1_hears_17 : decode cX1_hears 17 = .ok (.invokevirtual 93, 3) := by decide +kernel
theorem dX1_hears_20 : decode cX1_hears 20 = .ok (.aload_n 0, 1) := by decide +kernel
theorem dX1_hears_21 : decode cX1_hears 21 = .ok (.aload_n 0, 1) := by decide +kernel
theorem dX1_hears_22 : decode cX1_hears 22 = .ok (.getfield 15, 3) := by decide +kernel
theorem dX1_hears_25 : decode cX1_hears 25 = .ok (.iload_n 1, 1) := by decide +kernel
theorem dX1_hears_26 : decode cX1_hears 26 = .ok (.iaload, 1) := by decide +kernel
theorem dX1_hears_27 : decode cX1_hears 27 = .ok (.invokevirtual 96, 3) := by decide +kernel
theorem dX1_hears_30 : decode cX1_hears 30 = .ok (.invokevirtual 99, 3) := by decide +kernel
theorem dX1_hears_33 : decode cX1_hears 33 = .ok (.ifCond .eq 7, 3) := by decide +kernel
theorem dX1_hears_36 : decode cX1_hears 36 = .ok (.iconst 1, 1) := by decide +kernel
theorem dX1_hears_37 : decode cX1_hears 37 = .ok (.goto 4, 3) := by decide +kernel
theorem dX1_hears_40 : decode cX1_hears 40 = .ok (.iconst 0, 1) := by decide +kernel
theorem dX1_hears_41 : decode cX1_hears 41 = .ok (.ireturn, 1) := by decide +kernel
set_option maxRecDepth 20000 in
theorem ggX1_hearing_X1_hears : GoodIn wsX1_hearing wsX1_hears := goodIn_r _ [6, 7, 8, 9, 10, 5, 11, 12, 13, 14, 15, 16, 17, 18, 19, 20, 21, 22, 23, 24, 25, 26, 27, 28, 29, 30, 31, 32, 33, 34, 35, 36, 37, 38, 39, 40, 1, 41, 42, 43, 44, 45, 46, 47, 48, 49, 50, 51, 52, 53, 54, 55, 56, 57, 58, 59, 60, 61, 62, 63, 64, 65, 66, 67, 68, 69, 70, 71, 72, 73] (by decide +kernel) (by decide +kernel)
set_option maxRecDepth 20000 in
theorem gX1_hearing_X1_hears : GoodIn wsX1_hearing (wsV RX1 103 RX1 yX1_hears wsX1_hears) := goodIn_app (goodIn_of _ (by decide +kernel)) ggX1_hearing_X1_hears
theorem dX1_hearing_0 : decode cX1_hearing 0 = .ok (.iconst 0, 1) := by decide +kernel
theorem dX1_hearing_1 : decode cX1_hearing 1 = .ok (.istore_n 1, 1) := by decide +kernel
theorem dX1_hearing_2 : decode cX1_hearing 2 = .ok (.iconst 0, 1) := by decide +kernel
theorem dX1_hearing_3 : decode cX1_hearing 3 = .ok (.istore_n 2, 1) := by decide +kernel
theorem dX1_hearing_4 : decode cX1_hearing 4 = .ok (.iload_n 2, 1) := by decide +kernel
theorem dX1_hearing_5 : decode cX1_hearing 5 = .ok (.aload_n 0, 1) := by decide +kernel
theorem dX1_hearing_6 : decode cX1_hearing 6 = .ok (.getfield 30, 3) := by decide +kernel
theorem dX1_hearing_9 : decode cX1_hearing 9 = .ok (.if_icmp .ge 23, 3) := by decide +kernel
theorem dX1_hearing_12 : decode cX1_hearing 12 = .ok (.aload_n 0, 1) := by decide +kernel
theorem dX1_hearing_13 : decode cX1_hearing 13 = .ok (.iload_n 2, 1) := by decide +kernel
theorem dX1_hearing_14 : decode cX1_hearing 14 = .ok (.invokevirtual 103, 3) := by decide +kernel
theorem dX1_hearing_17 : decode cX1_hearing 17 = .ok (.ifCond .eq 9, 3) := by decide +kernel
theorem dX1_hearing_20 : decode cX1_hearing 20 = .ok (.iload_n 1, 1) := by decide +kernel
theorem dX1_hearing_21 : decode cX1_hearing 21 = .ok (.iconst 1, 1) := by decide +kernel
theorem dX1_hearing_22 : decode cX1_hearing 22 = .ok (.iload_n 2, 1) := by decide +kernel
theorem dX1_hearing_23 : decode cX1_hearing 23 = .ok (.ishl, 1) := by decide +kernel
theorem dX1_hearing_24 : decode cX1_hearing 24 = .ok (.ior, 1) := by decide +kernel
theorem dX1_hearing_25 : decode cX1_hearing 25 = .ok (.istore_n 1, 1) := by decide +kernel
theorem dX1_hearing_26 : decode cX1_hearing 26 = .ok (.iinc 2 1, 3) := by decide +kernel
theorem dX1_hearing_29 : decode cX1_hearing 29 = .ok (.goto (-25), 3) := by decide +kernel
theorem dX1_hearing_32 : decode cX1_hearing 32 = .ok (.iload_n 1, 1) := by decide +kernel
theorem dX1_hearing_33 : decode cX1_hearing 33 = .ok (.ireturn, 1) := by decide +kernel
set_option maxRecDepth 20000 in
theorem ggX1_allHear_X1_hears : GoodIn wsX1_allHear wsX1_hears := goodIn_r _ [6, 7, 8, 9, 10, 5, 11, 12, 13, 14, 15, 16, 17, 18, 19, 20, 21, 22, 23, 24, 25, 26, 27, 28, 29, 30, 31, 32, 33, 34, 35, 36, 37, 38, 39, 40, 1, 41, 42, 43, 44, 45, 46, 47, 48, 49, 50, 51, 52, 53, 54, 55, 56, 57, 58, 59, 60, 61, 62, 63, 64, 65, 66, 67, 68, 69, 70, 71, 72, 73] (by decide +kernel) (by decide +kernel)
set_option maxRecDepth 20000 in
theorem gX1_allHear_X1_hears : GoodIn wsX1_allHear (wsV RX1 103 RX1 yX1_hears wsX1_hears) := goodIn_app (goodIn_of _ (by decide +kernel)) ggX1_allHear_X1_hears
theorem dX1_allHear_0 : decode cX1_allHear 0 = .ok (.iconst 0, 1) := by decide +kernel
theorem dX1_allHear_1 : decode cX1_allHear 1 = .ok (.istore_n 1, 1) := by decide +kernel
theorem dX1_allHear_2 : decode cX1_allHear 2 = .ok (.iload_n 1, 1) := by decide +kernel
theorem dX1_allHear_3 : decode cX1_allHear 3 = .ok (.aload_n 0, 1) := by decide +kernel
theorem dX1_allHear_4 : decode cX1_allHear 4 = .ok (.getfield 30, 3) := by decide +kernel
theorem dX1_allHear_7 : decode cX1_allHear 7 = .ok (.if_icmp .ge 19, 3) := by decide +kernel
theorem dX1_allHear_10 : decode cX1_allHear 10 = .ok (.aload_n 0, 1) := by decide +kernel
theorem dX1_allHear_11 : decode cX1_allHear 11 = .ok (.iload_n 1, 1) := by decide +kernel
theorem dX1_allHear_12 : decode cX1_allHear 12 = .ok (.invokevirtual 103, 3) := by decide +kernel
theorem dX1_allHear_15 : decode cX1_allHear 15 = .ok (.ifCond .ne 5, 3) := by decide +kernel
theorem dX1_allHear_18 : decode cX1_allHear 18 = .ok (.iconst 0, 1) := by decide +kernel
theorem dX1_allHear_19 : decode cX1_allHear 19 = .ok (.ireturn, 1) := by decide +kernel
theorem dX1_allHear_20 : decode cX1_allHear 20 = .ok (.iinc 1 1, 3) := by decide +kernel
theorem dX1_allHear_23 : decode cX1_allHear 23 = .ok (.goto (-21), 3) := by decide +kernel
theorem dX1_allHear_26 : decode cX1_allHear 26 = .ok (.iconst 1, 1) := by decide +kernel
theorem dX1_allHear_27 : decode cX1_allHear 27 = .ok (.ireturn, 1) := by decide +kernel
set_option maxRecDepth 20000 in
theorem ggX1_look_X1_echoing : GoodIn wsX1_look wsX1_echoing := goodIn_r _ [9, 10, 11, 12, 13, 14, 15, 16, 17, 8, 18, 1, 19, 20, 21, 22, 23, 24, 25, 26, 27, 28, 29, 30, 68, 69, 70, 71, 72, 73, 74, 75, 76, 77, 78, 79] (by decide +kernel) (by decide +kernel)
set_option maxRecDepth 20000 in
theorem gX1_look_X1_echoing : GoodIn wsX1_look (wsV RX1 84 RX1 yX1_echoing wsX1_echoing) := goodIn_app (goodIn_of _ (by decide +kernel)) ggX1_look_X1_echoing
set_option maxRecDepth 20000 in
theorem ggX1_look_X1_fromAll : GoodIn wsX1_look wsX1_fromAll := goodIn_r _ [34, 1, 35, 36, 37, 8, 38, 3, 39, 40, 41, 19, 20, 21, 22, 23, 24, 25, 68, 69, 70, 71, 72, 73, 74, 75, 76, 77, 78, 79] (by decide +kernel) (by decide +kernel)
set_option maxRecDepth 20000 in
theorem gX1_look_X1_fromAll : GoodIn wsX1_look (wsV RX1 87 RX1 yX1_fromAll wsX1_fromAll) := goodIn_app (goodIn_of _ (by decide +kernel)) ggX1_look_X1_fromAll
set_option maxRecDepth 20000 in
theorem ggX1_look_X1_voiceAfter : GoodIn wsX1_look wsX1_voiceAfter := goodIn_r _ [45, 25, 46, 47, 48, 13, 49, 50, 51, 52, 8, 53, 23, 19, 20, 21, 22, 24, 54, 55, 56, 57, 11, 12, 14, 58, 59, 60, 61, 62, 68, 69, 70, 71, 72, 73, 74, 75, 76, 77, 78, 79] (by decide +kernel) (by decide +kernel)
set_option maxRecDepth 20000 in
theorem gX1_look_X1_voiceAfter : GoodIn wsX1_look (wsV RX1 106 RX1 yX1_voiceAfter wsX1_voiceAfter) := goodIn_app (goodIn_of _ (by decide +kernel)) ggX1_look_X1_voiceAfter
set_option maxRecDepth 20000 in
theorem ggX1_look_X1_musicAfter : GoodIn wsX1_look wsX1_musicAfter := goodIn_r _ [66, 67, 30, 47, 48, 13, 49, 11, 12, 14, 26, 27, 28, 8, 29, 68, 69, 70, 71, 72, 73, 74, 75, 76, 77, 78, 79] (by decide +kernel) (by decide +kernel)
set_option maxRecDepth 20000 in
theorem gX1_look_X1_musicAfter : GoodIn wsX1_look (wsV RX1 109 RX1 yX1_musicAfter wsX1_musicAfter) := goodIn_app (goodIn_of _ (by decide +kernel)) ggX1_look_X1_musicAfter
theorem dX1_look_0 : decode cX1_look 0 = .ok (.aload_n 0, 1) := by decide +kernel
theorem dX1_look_1 : decode cX1_look 1 = .ok (.invokevirtual 84, 3) := by decide +kernel
theorem dX1_look_4 : decode cX1_look 4 = .ok (.istore_n 1, 1) := by decide +kernel
theorem dX1_look_5 : decode cX1_look 5 = .ok (.iconst 0, 1) := by decide +kernel
theorem dX1_look_6 : decode cX1_look 6 = .ok (.istore_n 2, 1) := by decide +kernel
theorem dX1_look_7 : decode cX1_look 7 = .ok (.iload_n 2, 1) := by decide +kernel
theorem dX1_look_8 : decode cX1_look 8 = .ok (.aload_n 0, 1) := by decide +kernel
theorem dX1_look_9 : decode cX1_look 9 = .ok (.getfield 30, 3) := by decide +kernel
theorem dX1_look_12 : decode cX1_look 12 = .ok (.if_icmp .ge 32, 3) := by decide +kernel
theorem dX1_look_15 : decode cX1_look 15 = .ok (.aload_n 0, 1) := by decide +kernel
theorem dX1_look_16 : decode cX1_look 16 = .ok (.getfield 27, 3) := by decide +kernel
theorem dX1_look_19 : decode cX1_look 19 = .ok (.iload_n 2, 1) := by decide +kernel
theorem dX1_look_20 : decode cX1_look 20 = .ok (.aload_n 0, 1) := by decide +kernel
theorem dX1_look_21 : decode cX1_look 21 = .ok (.iload_n 2, 1) := by decide +kernel
theorem dX1_look_22 : decode cX1_look 22 = .ok (.iload_n 1, 1) := by decide +kernel
theorem dX1_look_23 : decode cX1_look 23 = .ok (.aload_n 0, 1) := by decide +kernel
theorem dX1_look_24 : decode cX1_look 24 = .ok (.aload_n 0, 1) := by decide +kernel
theorem dX1_look_25 : decode cX1_look 25 = .ok (.getfield 15, 3) := by decide +kernel
theorem dX1_look_28 : decode cX1_look 28 = .ok (.iload_n 2, 1) := by decide +kernel
theorem dX1_look_29 : decode cX1_look 29 = .ok (.iaload, 1) := by decide +kernel
theorem dX1_look_30 : decode cX1_look 30 = .ok (.invokevirtual 87, 3) := by decide +kernel
theorem dX1_look_33 : decode cX1_look 33 = .ok (.iadd, 1) := by decide +kernel
theorem dX1_look_34 : decode cX1_look 34 = .ok (.invokevirtual 106, 3) := by decide +kernel
theorem dX1_look_37 : decode cX1_look 37 = .ok (.iastore, 1) := by decide +kernel
theorem dX1_look_38 : decode cX1_look 38 = .ok (.iinc 2 1, 3) := by decide +kernel
theorem dX1_look_41 : decode cX1_look 41 = .ok (.goto (-34), 3) := by decide +kernel
theorem dX1_look_44 : decode cX1_look 44 = .ok (.aload_n 0, 1) := by decide +kernel
theorem dX1_look_45 : decode cX1_look 45 = .ok (.aload_n 0, 1) := by decide +kernel
theorem dX1_look_46 : decode cX1_look 46 = .ok (.iload_n 1, 1) := by decide +kernel
theorem dX1_look_47 : decode cX1_look 47 = .ok (.invokevirtual 109, 3) := by decide +kernel
theorem dX1_look_50 : decode cX1_look 50 = .ok (.putfield 112, 3) := by decide +kernel
theorem dX1_look_53 : decode cX1_look 53 = .ok (.return_, 1) := by decide +kernel
theorem dX1_take_0 : decode cX1_take 0 = .ok (.iconst 0, 1) := by decide +kernel
theorem dX1_take_1 : decode cX1_take 1 = .ok (.istore_n 1, 1) := by decide +kernel
theorem dX1_take_2 : decode cX1_take 2 = .ok (.iload_n 1, 1) := by decide +kernel
theorem dX1_take_3 : decode cX1_take 3 = .ok (.aload_n 0, 1) := by decide +kernel
theorem dX1_take_4 : decode cX1_take 4 = .ok (.getfield 30, 3) := by decide +kernel
theorem dX1_take_7 : decode cX1_take 7 = .ok (.if_icmp .ge 21, 3) := by decide +kernel
theorem dX1_take_10 : decode cX1_take 10 = .ok (.aload_n 0, 1) := by decide +kernel
theorem dX1_take_11 : decode cX1_take 11 = .ok (.getfield 21, 3) := by decide +kernel
theorem dX1_take_14 : decode cX1_take 14 = .ok (.iload_n 1, 1) := by decide +kernel
theorem dX1_take_15 : decode cX1_take 15 = .ok (.aload_n 0, 1) := by decide +kernel
theorem dX1_take_16 : decode cX1_take 16 = .ok (.getfield 27, 3) := by decide +kernel
theorem dX1_take_19 : decode cX1_take 19 = .ok (.iload_n 1, 1) := by decide +kernel
theorem dX1_take_20 : decode cX1_take 20 = .ok (.iaload, 1) := by decide +kernel
theorem dX1_take_21 : decode cX1_take 21 = .ok (.iastore, 1) := by decide +kernel
theorem dX1_take_22 : decode cX1_take 22 = .ok (.iinc 1 1, 3) := by decide +kernel
theorem dX1_take_25 : decode cX1_take 25 = .ok (.goto (-23), 3) := by decide +kernel
theorem dX1_take_28 : decode cX1_take 28 = .ok (.aload_n 0, 1) := by decide +kernel
theorem dX1_take_29 : decode cX1_take 29 = .ok (.aload_n 0, 1) := by decide +kernel
theorem dX1_take_30 : decode cX1_take 30 = .ok (.getfield 112, 3) := by decide +kernel
theorem dX1_take_33 : decode cX1_take 33 = .ok (.putfield 37, 3) := by decide +kernel
theorem dX1_take_36 : decode cX1_take 36 = .ok (.return_, 1) := by decide +kernel
theorem dX1_changing_0 : decode cX1_changing 0 = .ok (.iconst 0, 1) := by decide +kernel
theorem dX1_changing_1 : decode cX1_changing 1 = .ok (.istore_n 1, 1) := by decide +kernel
theorem dX1_changing_2 : decode cX1_changing 2 = .ok (.iconst 0, 1) := by decide +kernel
theorem dX1_changing_3 : decode cX1_changing 3 = .ok (.istore_n 2, 1) := by decide +kernel
theorem dX1_changing_4 : decode cX1_changing 4 = .ok (.iload_n 2, 1) := by decide +kernel
theorem dX1_changing_5 : decode cX1_changing 5 = .ok (.aload_n 0, 1) := by decide +kernel
theorem dX1_changing_6 : decode cX1_changing 6 = .ok (.getfield 30, 3) := by decide +kernel
theorem dX1_changing_9 : decode cX1_changing 9 = .ok (.if_icmp .ge 27, 3) := by decide +kernel
theorem dX1_changing_12 : decode cX1_changing 12 = .ok (.aload_n 0, 1) := by decide +kernel
theorem dX1_changing_13 : decode cX1_changing 13 = .ok (.getfield 21, 3) := by decide +kernel
theorem dX1_changing_16 : decode cX1_changing 16 = .ok (.iload_n 2, 1) := by decide +kernel
theorem dX1_changing_17 : decode cX1_changing 17 = .ok (.iaload, 1) := by decide +kernel
theorem dX1_changing_18 : decode cX1_changing 18 = .ok (.aload_n 0, 1) := by decide +kernel
theorem dX1_changing_19 : decode cX1_changing 19 = .ok (.getfield 27, 3) := by decide +kernel
theorem dX1_changing_22 : decode cX1_changing 22 = .ok (.iload_n 2, 1) := by decide +kernel
theorem dX1_changing_23 : decode cX1_changing 23 = .ok (.iaload, 1) := by decide +kernel
theorem dX1_changing_24 : decode cX1_changing 24 = .ok (.if_icmp .eq 6, 3) := by decide +kernel
theorem dX1_changing_27 : decode cX1_changing 27 = .ok (.iinc 1 1, 3) := by decide +kernel
theorem dX1_changing_30 : decode cX1_changing 30 = .ok (.iinc 2 1, 3) := by decide +kernel
theorem dX1_changing_33 : decode cX1_changing 33 = .ok (.goto (-29), 3) := by decide +kernel
theorem dX1_changing_36 : decode cX1_changing 36 = .ok (.iload_n 1, 1) := by decide +kernel
theorem dX1_changing_37 : decode cX1_changing 37 = .ok (.ireturn, 1) := by decide +kernel
set_option maxRecDepth 20000 in
theorem ggX1_voiceAfter_X1_hearsAnyway : GoodIn wsX1_voiceAfter wsX1_hearsAnyway := goodIn_r _ [11, 2, 12, 30, 31, 32, 33, 34, 35, 36, 37, 38, 39, 40, 41] (by decide +kernel) (by decide +kernel)
set_option maxRecDepth 20000 in
theorem gX1_voiceAfter_X1_hearsAnyway : GoodIn wsX1_voiceAfter (wsV RX1 90 RX1 yX1_hearsAnyway wsX1_hearsAnyway) := goodIn_app (goodIn_of _ (by decide +kernel)) ggX1_voiceAfter_X1_hearsAnyway
set_option maxRecDepth 20000 in
theorem ggX1_voiceAfter_X1_loudOf : GoodIn wsX1_voiceAfter wsX1_loudOf := goodIn_r _ [16, 12, 17, 1, 30, 31, 32, 33, 34, 35, 36, 37, 38, 39, 40, 41] (by decide +kernel) (by decide +kernel)
set_option maxRecDepth 20000 in
theorem gX1_voiceAfter_X1_loudOf : GoodIn wsX1_voiceAfter (wsV RX1 68 RX1 yX1_loudOf wsX1_loudOf) := goodIn_app (goodIn_of _ (by decide +kernel)) ggX1_voiceAfter_X1_loudOf
set_option maxRecDepth 20000 in
theorem ggX1_voiceAfter_X1_soundBy : GoodIn wsX1_voiceAfter wsX1_soundBy := goodIn_r _ [21, 2, 12, 22, 23, 5, 24, 30, 31, 32, 33, 34, 35, 36, 37, 38, 39, 40, 41] (by decide +kernel) (by decide +kernel)
set_option maxRecDepth 20000 in
theorem gX1_voiceAfter_X1_soundBy : GoodIn wsX1_voiceAfter (wsV RX1 93 RX1 yX1_soundBy wsX1_soundBy) := goodIn_app (goodIn_of _ (by decide +kernel)) ggX1_voiceAfter_X1_soundBy
set_option maxRecDepth 20000 in
theorem ggX1_voiceAfter_X1_hearsBy : GoodIn wsX1_voiceAfter wsX1_hearsBy := goodIn_r _ [28, 29, 30, 31, 32, 33, 34, 35, 36, 37, 38, 39, 40, 41] (by decide +kernel) (by decide +kernel)
set_option maxRecDepth 20000 in
theorem gX1_voiceAfter_X1_hearsBy : GoodIn wsX1_voiceAfter (wsV RX1 99 RX1 yX1_hearsBy wsX1_hearsBy) := goodIn_app (goodIn_of _ (by decide +kernel)) ggX1_voiceAfter_X1_hearsBy
theorem dX1_voiceAfter_0 : decode cX1_voiceAfter 0 = .ok (.aload_n 0, 1) := by decide +kernel
theorem dX1_voiceAfter_1 : decode cX1_voiceAfter 1 = .ok (.getfield 21, 3) := by decide +kernel
theorem dX1_voiceAfter_4 : decode cX1_voiceAfter 4 = .ok (.iload_n 1, 1) := by decide +kernel
theorem dX1_voiceAfter_5 : decode cX1_voiceAfter 5 = .ok (.iaload, 1) := by decide +kernel
theorem dX1_voiceAfter_6 : decode cX1_voiceAfter 6 = .ok (.istore_n 3, 1) := by decide +kernel
theorem dX1_voiceAfter_7 : decode cX1_voiceAfter 7 = .ok (.aload_n 0, 1) := by decide +kernel
theorem dX1_voiceAfter_8 : decode cX1_voiceAfter 8 = .ok (.iload_n 1, 1) := by decide +kernel
theorem dX1_voiceAfter_9 : decode cX1_voiceAfter 9 = .ok (.invokevirtual 90, 3) := by decide +kernel
theorem dX1_voiceAfter_12 : decode cX1_voiceAfter 12 = .ok (.ifCond .eq 5, 3) := by decide +kernel
theorem dX1_voiceAfter_15 : decode cX1_voiceAfter 15 = .ok (.iload_n 3, 1) := by decide +kernel
theorem dX1_voiceAfter_16 : decode cX1_voiceAfter 16 = .ok (.ireturn, 1) := by decide +kernel
theorem dX1_voiceAfter_17 : decode cX1_voiceAfter 17 = .ok (.aload_n 0, 1) := by decide +kernel
theorem dX1_voiceAfter_18 : decode cX1_voiceAfter 18 = .ok (.iload_n 1, 1) := by decide +kernel
theorem dX1_voiceAfter_19 : decode cX1_voiceAfter 19 = .ok (.aload_n 0, 1) := by decide +kernel
theorem dX1_voiceAfter_20 : decode cX1_voiceAfter 20 = .ok (.iload_n 1, 1) := by decide +kernel
theorem dX1_voiceAfter_21 : decode cX1_voiceAfter 21 = .ok (.invokevirtual 68, 3) := by decide +kernel
theorem dX1_voiceAfter_24 : decode cX1_voiceAfter 24 = .ok (.invokevirtual 93, 3) := by decide +kernel
theorem dX1_voiceAfter_27 : decode cX1_voiceAfter 27 = .ok (.istore 4, 2) := by decide +kernel
theorem dX1_voiceAfter_29 : decode cX1_voiceAfter 29 = .ok (.aload_n 0, 1) := by decide +kernel
theorem dX1_voiceAfter_30 : decode cX1_voiceAfter 30 = .ok (.iload_n 1, 1) := by decide +kernel
theorem dX1_voiceAfter_31 : decode cX1_voiceAfter 31 = .ok (.iload 4, 2) := by decide +kernel
theorem dX1_voiceAfter_33 : decode cX1_voiceAfter 33 = .ok (.iload_n 2, 1) := by decide +kernel
theorem dX1_voiceAfter_34 : decode cX1_voiceAfter 34 = .ok (.invokevirtual 99, 3) := by decide +kernel
theorem dX1_voiceAfter_37 : decode cX1_voiceAfter 37 = .ok (.ifCond .eq 47, 3) := by decide +kernel
theorem dX1_voiceAfter_40 : decode cX1_voiceAfter 40 = .ok (.iload_n 3, 1) := by decide +kernel
theorem dX1_voiceAfter_41 : decode cX1_voiceAfter 41 = .ok (.iconst 1, 1) := by decide +kernel
theorem dX1_voiceAfter_42 : decode cX1_voiceAfter 42 = .ok (.if_icmp .le 26, 3) := by decide +kernel
theorem dX1_voiceAfter_45 : decode cX1_voiceAfter 45 = .ok (.aload_n 0, 1) := by decide +kernel
theorem dX1_voiceAfter_46 : decode cX1_voiceAfter 46 = .ok (.iload_n 1, 1) := by decide +kernel
theorem dX1_voiceAfter_47 : decode cX1_voiceAfter 47 = .ok (.aload_n 0, 1) := by decide +kernel
theorem dX1_voiceAfter_48 : decode cX1_voiceAfter 48 = .ok (.iload_n 1, 1) := by decide +kernel
theorem dX1_voiceAfter_49 : decode cX1_voiceAfter 49 = .ok (.iconst 1, 1) := by decide +kernel
theorem dX1_voiceAfter_50 : decode cX1_voiceAfter 50 = .ok (.iload_n 3, 1) := by decide +kernel
theorem dX1_voiceAfter_51 : decode cX1_voiceAfter 51 = .ok (.iconst 1, 1) := by decide +kernel
theorem dX1_voiceAfter_52 : decode cX1_voiceAfter 52 = .ok (.isub, 1) := by decide +kernel
theorem dX1_voiceAfter_53 : decode cX1_voiceAfter 53 = .ok (.ishl, 1) := by decide +kernel
theorem dX1_voiceAfter_54 : decode cX1_voiceAfter 54 = .ok (.invokevirtual 93, 3) := by decide +kernel
theorem dX1_voiceAfter_57 : decode cX1_voiceAfter 57 = .ok (.iload_n 2, 1) := by decide +kernel
theorem dX1_voiceAfter_58 : decode cX1_voiceAfter 58 = .ok (.invokevirtual 99, 3) := by decide +kernel
theorem dX1_voiceAfter_61 : decode cX1_voiceAfter 61 = .ok (.ifCond .eq 7, 3) := by decide +kernel
theorem dX1_voiceAfter_64 : decode cX1_voiceAfter 64 = .ok (.iconst 1, 1) := by decide +kernel
theorem dX1_voiceAfter_65 : decode cX1_voiceAfter 65 = .ok (.goto 4, 3) := by decide +kernel
theorem dX1_voiceAfter_68 : decode cX1_voiceAfter 68 = .ok (.iconst 0, 1) := by decide +kernel
theorem dX1_voiceAfter_69 : decode cX1_voiceAfter 69 = .ok (.istore 5, 2) := by decide +kernel
theorem dX1_voiceAfter_71 : decode cX1_voiceAfter 71 = .ok (.iload 5, 2) := by decide +kernel
theorem dX1_voiceAfter_73 : decode cX1_voiceAfter 73 = .ok (.ifCond .eq 9, 3) := by decide +kernel
theorem dX1_voiceAfter_76 : decode cX1_voiceAfter 76 = .ok (.iload_n 3, 1) := by decide +kernel
theorem dX1_voiceAfter_77 : decode cX1_voiceAfter 77 = .ok (.iconst 1, 1) := by decide +kernel
theorem dX1_voiceAfter_78 : decode cX1_voiceAfter 78 = .ok (.isub, 1) := by decide +kernel
theorem dX1_voiceAfter_79 : decode cX1_voiceAfter 79 = .ok (.goto 4, 3) := by decide +kernel
theorem dX1_voiceAfter_82 : decode cX1_voiceAfter 82 = .ok (.iload_n 3, 1) := by decide +kernel
theorem dX1_voiceAfter_83 : decode cX1_voiceAfter 83 = .ok (.ireturn, 1) := by decide +kernel
theorem dX1_voiceAfter_84 : decode cX1_voiceAfter 84 = .ok (.aload_n 0, 1) := by decide +kernel
theorem dX1_voiceAfter_85 : decode cX1_voiceAfter 85 = .ok (.getfield 9, 3) := by decide +kernel
theorem dX1_voiceAfter_88 : decode cX1_voiceAfter 88 = .ok (.iload_n 1, 1) := by decide +kernel
theorem dX1_voiceAfter_89 : decode cX1_voiceAfter 89 = .ok (.iaload, 1) := by decide +kernel
theorem dX1_voiceAfter_90 : decode cX1_voiceAfter 90 = .ok (.iconst 1, 1) := by decide +kernel
theorem dX1_voiceAfter_91 : decode cX1_voiceAfter 91 = .ok (.if_icmp .ne 18, 3) := by decide +kernel
theorem dX1_voiceAfter_94 : decode cX1_voiceAfter 94 = .ok (.aload_n 0, 1) := by decide +kernel
theorem dX1_voiceAfter_95 : decode cX1_voiceAfter 95 = .ok (.iload_n 1, 1) := by decide +kernel
theorem dX1_voiceAfter_96 : decode cX1_voiceAfter 96 = .ok (.iconst 2, 1) := by decide +kernel
theorem dX1_voiceAfter_97 : decode cX1_voiceAfter 97 = .ok (.iload 4, 2) := by decide +kernel
theorem dX1_voiceAfter_99 : decode cX1_voiceAfter 99 = .ok (.imul, 1) := by decide +kernel
theorem dX1_voiceAfter_100 : decode cX1_voiceAfter 100 = .ok (.iload_n 2, 1) := by decide +kernel
theorem dX1_voiceAfter_101 : decode cX1_voiceAfter 101 = .ok (.invokevirtual 99, 3) := by decide +kernel
theorem dX1_voiceAfter_104 : decode cX1_voiceAfter 104 = .ok (.ifCond .eq 5, 3) := by decide +kernel
theorem dX1_voiceAfter_107 : decode cX1_voiceAfter 107 = .ok (.iload_n 3, 1) := by decide +kernel
theorem dX1_voiceAfter_108 : decode cX1_voiceAfter 108 = .ok (.ireturn, 1) := by decide +kernel
theorem dX1_voiceAfter_109 : decode cX1_voiceAfter 109 = .ok (.bipush 9, 2) := by decide +kernel
theorem dX1_voiceAfter_111 : decode cX1_voiceAfter 111 = .ok (.iload_n 3, 1) := by decide +kernel
theorem dX1_voiceAfter_112 : decode cX1_voiceAfter 112 = .ok (.aload_n 0, 1) := by decide +kernel
theorem dX1_voiceAfter_113 : decode cX1_voiceAfter 113 = .ok (.getfield 9, 3) := by decide +kernel
theorem dX1_voiceAfter_116 : decode cX1_voiceAfter 116 = .ok (.iload_n 1, 1) := by decide +kernel
theorem dX1_voiceAfter_117 : decode cX1_voiceAfter 117 = .ok (.iaload, 1) := by decide +kernel
theorem dX1_voiceAfter_118 : decode cX1_voiceAfter 118 = .ok (.iconst 2, 1) := by decide +kernel
theorem dX1_voiceAfter_119 : decode cX1_voiceAfter 119 = .ok (.if_icmp .ne 7, 3) := by decide +kernel
theorem dX1_voiceAfter_122 : decode cX1_voiceAfter 122 = .ok (.iconst 2, 1) := by decide +kernel
theorem dX1_voiceAfter_123 : decode cX1_voiceAfter 123 = .ok (.goto 4, 3) := by decide +kernel
theorem dX1_voiceAfter_126 : decode cX1_voiceAfter 126 = .ok (.iconst 1, 1) := by decide +kernel
theorem dX1_voiceAfter_127 : decode cX1_voiceAfter 127 = .ok (.iadd, 1) := by decide +kernel
theorem dX1_voiceAfter_128 : decode cX1_voiceAfter 128 = .ok (.invokestatic 63, 3) := by decide +kernel
theorem dX1_voiceAfter_131 : decode cX1_voiceAfter 131 = .ok (.ireturn, 1) := by decide +kernel
set_option maxRecDepth 20000 in
theorem ggX1_musicAfter_X1_loudMusic : GoodIn wsX1_musicAfter wsX1_loudMusic := goodIn_r _ [14, 2, 15, 16, 17, 18, 19, 20, 21, 22, 23, 24, 25, 26] (by decide +kernel) (by decide +kernel)
set_option maxRecDepth 20000 in
theorem gX1_musicAfter_X1_loudMusic : GoodIn wsX1_musicAfter (wsV RX1 75 RX1 yX1_loudMusic wsX1_loudMusic) := goodIn_app (goodIn_of _ (by decide +kernel)) ggX1_musicAfter_X1_loudMusic
theorem dX1_musicAfter_0 : decode cX1_musicAfter 0 = .ok (.aload_n 0, 1) := by decide +kernel
theorem dX1_musicAfter_1 : decode cX1_musicAfter 1 = .ok (.invokevirtual 75, 3) := by decide +kernel
theorem dX1_musicAfter_4 : decode cX1_musicAfter 4 = .ok (.istore_n 2, 1) := by decide +kernel
theorem dX1_musicAfter_5 : decode cX1_musicAfter 5 = .ok (.aload_n 0, 1) := by decide +kernel
theorem dX1_musicAfter_6 : decode cX1_musicAfter 6 = .ok (.getfield 40, 3) := by decide +kernel
theorem dX1_musicAfter_9 : decode cX1_musicAfter 9 = .ok (.ifCond .eq 8, 3) := by decide +kernel
theorem dX1_musicAfter_12 : decode cX1_musicAfter 12 = .ok (.iload_n 1, 1) := by decide +kernel
theorem dX1_musicAfter_13 : decode cX1_musicAfter 13 = .ok (.iload_n 2, 1) := by decide +kernel
theorem dX1_musicAfter_14 : decode cX1_musicAfter 14 = .ok (.if_icmp .ne 8, 3) := by decide +kernel
theorem dX1_musicAfter_17 : decode cX1_musicAfter 17 = .ok (.aload_n 0, 1) := by decide +kernel
theorem dX1_musicAfter_18 : decode cX1_musicAfter 18 = .ok (.getfield 37, 3) := by decide +kernel
theorem dX1_musicAfter_21 : decode cX1_musicAfter 21 = .ok (.ireturn, 1) := by decide +kernel
theorem dX1_musicAfter_22 : decode cX1_musicAfter 22 = .ok (.iload_n 1, 1) := by decide +kernel
theorem dX1_musicAfter_23 : decode cX1_musicAfter 23 = .ok (.iload_n 2, 1) := by decide +kernel
theorem dX1_musicAfter_24 : decode cX1_musicAfter 24 = .ok (.if_icmp .le 17, 3) := by decide +kernel
theorem dX1_musicAfter_27 : decode cX1_musicAfter 27 = .ok (.bipush 9, 2) := by decide +kernel
theorem dX1_musicAfter_29 : decode cX1_musicAfter 29 = .ok (.aload_n 0, 1) := by decide +kernel
theorem dX1_musicAfter_30 : decode cX1_musicAfter 30 = .ok (.getfield 37, 3) := by decide +kernel
theorem dX1_musicAfter_33 : decode cX1_musicAfter 33 = .ok (.iconst 1, 1) := by decide +kernel
theorem dX1_musicAfter_34 : decode cX1_musicAfter 34 = .ok (.iadd, 1) := by decide +kernel
theorem dX1_musicAfter_35 : decode cX1_musicAfter 35 = .ok (.invokestatic 63, 3) := by decide +kernel
theorem dX1_musicAfter_38 : decode cX1_musicAfter 38 = .ok (.goto 13, 3) := by decide +kernel
theorem dX1_musicAfter_41 : decode cX1_musicAfter 41 = .ok (.iconst 0, 1) := by decide +kernel
theorem dX1_musicAfter_42 : decode cX1_musicAfter 42 = .ok (.aload_n 0, 1) := by decide +kernel
theorem dX1_musicAfter_43 : decode cX1_musicAfter 43 = .ok (.getfield 37, 3) := by decide +kernel
theorem dX1_musicAfter_46 : decode cX1_musicAfter 46 = .ok (.iconst 1, 1) := by decide +kernel
theorem dX1_musicAfter_47 : decode cX1_musicAfter 47 = .ok (.isub, 1) := by decide +kernel
theorem dX1_musicAfter_48 : decode cX1_musicAfter 48 = .ok (.invokestatic 78, 3) := by decide +kernel
theorem dX1_musicAfter_51 : decode cX1_musicAfter 51 = .ok (.ireturn, 1) := by decide +kernel
set_option maxRecDepth 20000 in
theorem ggX1_settle_X1_look : GoodIn wsX1_settle wsX1_look := goodIn_r _ [7, 8, 9, 10, 1, 11, 12, 13, 6, 14, 15, 16, 17, 18, 19, 20, 21, 22, 23, 24, 25, 26, 27, 28, 29, 30, 31, 32, 33, 34, 2, 35, 36, 37, 38, 39, 40, 41, 42, 43, 44, 45, 46, 47, 48, 49, 50, 51, 52, 53, 54, 55, 56, 57, 58, 59, 60, 61, 62, 63, 64, 65, 66, 67, 68, 69, 70, 71, 80, 81, 82, 83, 84, 85, 86, 87, 88, 89, 90, 91] (by decide +kernel) (by decide +kernel)
set_option maxRecDepth 20000 in
theorem gX1_settle_X1_look : GoodIn wsX1_settle (wsV RX1 115 RX1 yX1_look wsX1_look) := goodIn_app (goodIn_of _ (by decide +kernel)) ggX1_settle_X1_look
set_option maxRecDepth 20000 in
theorem ggX1_settle_X1_changing : GoodIn wsX1_settle wsX1_changing := goodIn_r _ [75, 8, 30, 9, 80, 81, 82, 83, 84, 85, 86, 87, 88, 89, 90, 91] (by decide +kernel) (by decide +kernel)
set_option maxRecDepth 20000 in
theorem gX1_settle_X1_changing : GoodIn wsX1_settle (wsV RX1 118 RX1 yX1_changing wsX1_changing) := goodIn_app (goodIn_of _ (by decide +kernel)) ggX1_settle_X1_changing
set_option maxRecDepth 20000 in
theorem ggX1_settle_X1_take : GoodIn wsX1_settle wsX1_take := goodIn_r _ [79, 8, 30, 9, 1, 2, 80, 81, 82, 83, 84, 85, 86, 87, 88, 89, 90, 91] (by decide +kernel) (by decide +kernel)
set_option maxRecDepth 20000 in
theorem gX1_settle_X1_take : GoodIn wsX1_settle (wsV RX1 121 RX1 yX1_take wsX1_take) := goodIn_app (goodIn_of _ (by decide +kernel)) ggX1_settle_X1_take
theorem dX1_settle_0 : decode cX1_settle 0 = .ok (.iconst 0, 1) := by decide +kernel
theorem dX1_settle_1 : decode cX1_settle 1 = .ok (.istore_n 1, 1) := by decide +kernel
theorem dX1_settle_2 : decode cX1_settle 2 = .ok (.iload_n 1, 1) := by decide +kernel
theorem dX1_settle_3 : decode cX1_settle 3 = .ok (.bipush 40, 2) := by decide +kernel
theorem dX1_settle_5 : decode cX1_settle 5 = .ok (.if_icmp .gt 37, 3) := by decide +kernel
theorem dX1_settle_8 : decode cX1_settle 8 = .ok (.aload_n 0, 1) := by decide +kernel
theorem dX1_settle_9 : decode cX1_settle 9 = .ok (.invokevirtual 115, 3) := by decide +kernel
theorem dX1_settle_12 : decode cX1_settle 12 = .ok (.aload_n 0, 1) := by decide +kernel
theorem dX1_settle_13 : decode cX1_settle 13 = .ok (.invokevirtual 118, 3) := by decide +kernel
theorem dX1_settle_16 : decode cX1_settle 16 = .ok (.ifCond .ne 16, 3) := by decide +kernel
theorem dX1_settle_19 : decode cX1_settle 19 = .ok (.aload_n 0, 1) := by decide +kernel
theorem dX1_settle_20 : decode cX1_settle 20 = .ok (.getfield 112, 3) := by decide +kernel
theorem dX1_settle_23 : decode cX1_settle 23 = .ok (.aload_n 0, 1) := by decide +kernel
theorem dX1_settle_24 : decode cX1_settle 24 = .ok (.getfield 37, 3) := by decide +kernel
theorem dX1_settle_27 : decode cX1_settle 27 = .ok (.if_icmp .ne 5, 3) := by decide +kernel
theorem dX1_settle_30 : decode cX1_settle 30 = .ok (.iload_n 1, 1) := by decide +kernel
theorem dX1_settle_31 : decode cX1_settle 31 = .ok (.ireturn, 1) := by decide +kernel
theorem dX1_settle_32 : decode cX1_settle 32 = .ok (.aload_n 0, 1) := by decide +kernel
theorem dX1_settle_33 : decode cX1_settle 33 = .ok (.invokevirtual 121, 3) := by decide +kernel
theorem dX1_settle_36 : decode cX1_settle 36 = .ok (.iinc 1 1, 3) := by decide +kernel
theorem dX1_settle_39 : decode cX1_settle 39 = .ok (.goto (-37), 3) := by decide +kernel
theorem dX1_settle_42 : decode cX1_settle 42 = .ok (.bipush (-9), 2) := by decide +kernel
theorem dX1_settle_44 : decode cX1_settle 44 = .ok (.ireturn, 1) := by decide +kernel
set_option maxRecDepth 20000 in
theorem ggX1_restsHearing_X1_settle : GoodIn wsX1_restsHearing wsX1_settle := goodIn_r _ [5, 6, 7, 8, 9, 10, 4, 11, 12, 13, 14, 15, 16, 17, 18, 19, 20, 21, 22, 23, 24, 25, 26, 27, 28, 29, 30, 31, 32, 33, 34, 35, 36, 37, 38, 39, 40, 41, 42, 43, 44, 45, 46, 47, 48, 49, 50, 51, 52, 53, 54, 55, 56, 57, 58, 59, 60, 61, 62, 63, 64, 65, 66, 67, 68, 69, 70, 71, 72, 73, 74, 75, 76, 77, 78, 79, 80, 81, 82, 83, 96, 97, 98, 99, 100, 101, 102, 103, 104, 105, 106, 107] (by decide +kernel) (by decide +kernel)
set_option maxRecDepth 20000 in
theorem gX1_restsHearing_X1_settle : GoodIn wsX1_restsHearing (wsV RX1 124 RX1 yX1_settle wsX1_settle) := goodIn_app (goodIn_of _ (by decide +kernel)) ggX1_restsHearing_X1_settle
set_option maxRecDepth 20000 in
theorem ggX1_restsHearing_X1_allHear : GoodIn wsX1_restsHearing wsX1_allHear := goodIn_r _ [87, 12, 88, 89, 90, 4, 91, 14, 58, 59, 60, 61, 54, 32, 28, 29, 30, 31, 33, 34, 62, 63, 64, 65, 20, 21, 22, 23, 92, 93, 94, 95, 15, 16, 17, 18, 19, 24, 25, 26, 27, 35, 36, 37, 38, 7, 39, 40, 41, 42, 43, 44, 45, 46, 47, 48, 49, 66, 67, 68, 69, 70, 96, 97, 98, 99, 100, 101, 102, 103, 104, 105, 106, 107] (by decide +kernel) (by decide +kernel)
set_option maxRecDepth 20000 in
theorem gX1_restsHearing_X1_allHear : GoodIn wsX1_restsHearing (wsV RX1 127 RX1 yX1_allHear wsX1_allHear) := goodIn_app (goodIn_of _ (by decide +kernel)) ggX1_restsHearing_X1_allHear
theorem dX1_restsHearing_0 : decode cX1_restsHearing 0 = .ok (.aload_n 0, 1) := by decide +kernel
theorem dX1_restsHearing_1 : decode cX1_restsHearing 1 = .ok (.invokevirtual 124, 3) := by decide +kernel
theorem dX1_restsHearing_4 : decode cX1_restsHearing 4 = .ok (.bipush (-9), 2) := by decide +kernel
theorem dX1_restsHearing_6 : decode cX1_restsHearing 6 = .ok (.if_icmp .eq 14, 3) := by decide +kernel
theorem dX1_restsHearing_9 : decode cX1_restsHearing 9 = .ok (.aload_n 0, 1) := by decide +kernel
theorem dX1_restsHearing_10 : decode cX1_restsHearing 10 = .ok (.invokevirtual 127, 3) := by decide +kernel
theorem dX1_restsHearing_13 : decode cX1_restsHearing 13 = .ok (.ifCond .eq 7, 3) := by decide +kernel
theorem dX1_restsHearing_16 : decode cX1_restsHearing 16 = .ok (.iconst 1, 1) := by decide +kernel
theorem dX1_restsHearing_17 : decode cX1_restsHearing 17 = .ok (.goto 4, 3) := by decide +kernel
theorem dX1_restsHearing_20 : decode cX1_restsHearing 20 = .ok (.iconst 0, 1) := by decide +kernel
theorem dX1_restsHearing_21 : decode cX1_restsHearing 21 = .ok (.ireturn, 1) := by decide +kernel
theorem dX2_init_0 : decode cX2_init 0 = .ok (.aload_n 0, 1) := by decide +kernel
theorem dX2_init_1 : decode cX2_init 1 = .ok (.invokespecial 3, 3) := by decide +kernel
theorem dX2_init_4 : decode cX2_init 4 = .ok (.aload_n 0, 1) := by decide +kernel
theorem dX2_init_5 : decode cX2_init 5 = .ok (.bipush 6, 2) := by decide +kernel
theorem dX2_init_7 : decode cX2_init 7 = .ok (.newarray .int, 2) := by decide +kernel
theorem dX2_init_9 : decode cX2_init 9 = .ok (.putfield 9, 3) := by decide +kernel
theorem dX2_init_12 : decode cX2_init 12 = .ok (.aload_n 0, 1) := by decide +kernel
theorem dX2_init_13 : decode cX2_init 13 = .ok (.bipush 6, 2) := by decide +kernel
theorem dX2_init_15 : decode cX2_init 15 = .ok (.newarray .int, 2) := by decide +kernel
theorem dX2_init_17 : decode cX2_init 17 = .ok (.putfield 15, 3) := by decide +kernel
theorem dX2_init_20 : decode cX2_init 20 = .ok (.return_, 1) := by decide +kernel
theorem dX2_add_0 : decode cX2_add 0 = .ok (.aload_n 0, 1) := by decide +kernel
theorem dX2_add_1 : decode cX2_add 1 = .ok (.getfield 18, 3) := by decide +kernel
theorem dX2_add_4 : decode cX2_add 4 = .ok (.bipush 6, 2) := by decide +kernel
theorem dX2_add_6 : decode cX2_add 6 = .ok (.if_icmp .lt 6, 3) := by decide +kernel
theorem dX2_add_9 : decode cX2_add 9 = .ok (.bipush (-4), 2) := by decide +kernel
theorem dX2_add_11 : decode cX2_add 11 = .ok (.ireturn, 1) := by decide +kernel
theorem dX2_add_12 : decode cX2_add 12 = .ok (.aload_n 0, 1) := by decide +kernel
theorem dX2_add_13 : decode cX2_add 13 = .ok (.getfield 9, 3) := by decide +kernel
theorem dX2_add_16 : decode cX2_add 16 = .ok (.aload_n 0, 1) := by decide +kernel
theorem dX2_add_17 : decode cX2_add 17 = .ok (.getfield 18, 3) := by decide +kernel
theorem dX2_add_20 : decode cX2_add 20 = .ok (.iload_n 1, 1) := by decide +kernel
theorem dX2_add_21 : decode cX2_add 21 = .ok (.iastore, 1) := by decide +kernel
theorem dX2_add_22 : decode cX2_add 22 = .ok (.aload_n 0, 1) := by decide +kernel
theorem dX2_add_23 : decode cX2_add 23 = .ok (.getfield 15, 3) := by decide +kernel
theorem dX2_add_26 : decode cX2_add 26 = .ok (.aload_n 0, 1) := by decide +kernel
theorem dX2_add_27 : decode cX2_add 27 = .ok (.getfield 18, 3) := by decide +kernel
theorem dX2_add_30 : decode cX2_add 30 = .ok (.iload_n 2, 1) := by decide +kernel
theorem dX2_add_31 : decode cX2_add 31 = .ok (.iastore, 1) := by decide +kernel
theorem dX2_add_32 : decode cX2_add 32 = .ok (.aload_n 0, 1) := by decide +kernel
theorem dX2_add_33 : decode cX2_add 33 = .ok (.dup, 1) := by decide +kernel
theorem dX2_add_34 : decode cX2_add 34 = .ok (.getfield 18, 3) := by decide +kernel
theorem dX2_add_37 : decode cX2_add 37 = .ok (.iconst 1, 1) := by decide +kernel
theorem dX2_add_38 : decode cX2_add 38 = .ok (.iadd, 1) := by decide +kernel
theorem dX2_add_39 : decode cX2_add 39 = .ok (.putfield 18, 3) := by decide +kernel
theorem dX2_add_42 : decode cX2_add 42 = .ok (.aload_n 0, 1) := by decide +kernel
theorem dX2_add_43 : decode cX2_add 43 = .ok (.getfield 18, 3) := by decide +kernel
theorem dX2_add_46 : decode cX2_add 46 = .ok (.ireturn, 1) := by decide +kernel
theorem dX2_clear_0 : decode cX2_clear 0 = .ok (.aload_n 0, 1) := by decide +kernel
theorem dX2_clear_1 : decode cX2_clear 1 = .ok (.getfield 18, 3) := by decide +kernel
theorem dX2_clear_4 : decode cX2_clear 4 = .ok (.istore_n 1, 1) := by decide +kernel
theorem dX2_clear_5 : decode cX2_clear 5 = .ok (.aload_n 0, 1) := by decide +kernel
theorem dX2_clear_6 : decode cX2_clear 6 = .ok (.iconst 0, 1) := by decide +kernel
theorem dX2_clear_7 : decode cX2_clear 7 = .ok (.putfield 18, 3) := by decide +kernel
theorem dX2_clear_10 : decode cX2_clear 10 = .ok (.iload_n 1, 1) := by decide +kernel
theorem dX2_clear_11 : decode cX2_clear 11 = .ok (.ireturn, 1) := by decide +kernel
theorem dX2_fit_0 : decode cX2_fit 0 = .ok (.iconst 0, 1) := by decide +kernel
theorem dX2_fit_1 : decode cX2_fit 1 = .ok (.istore_n 3, 1) := by decide +kernel
theorem dX2_fit_2 : decode cX2_fit 2 = .ok (.iload_n 3, 1) := by decide +kernel
theorem dX2_fit_3 : decode cX2_fit 3 = .ok (.aload_n 0, 1) := by decide +kernel
theorem dX2_fit_4 : decode cX2_fit 4 = .ok (.getfield 18, 3) := by decide +kernel
theorem dX2_fit_7 : decode cX2_fit 7 = .ok (.if_icmp .ge 36, 3) := by decide +kernel
theorem dX2_fit_10 : decode cX2_fit 10 = .ok (.aload_n 0, 1) := by decide +kernel
theorem dX2_fit_11 : decode cX2_fit 11 = .ok (.getfield 9, 3) := by decide +kernel
theorem dX2_fit_14 : decode cX2_fit 14 = .ok (.iload_n 3, 1) := by decide +kernel
theorem dX2_fit_15 : decode cX2_fit 15 = .ok (.iaload, 1) := by decide +kernel
theorem dX2_fit_16 : decode cX2_fit 16 = .ok (.iload_n 1, 1) := by decide +kernel
theorem dX2_fit_17 : decode cX2_fit 17 = .ok (.if_icmp .ne 20, 3) := by decide +kernel
theorem dX2_fit_20 : decode cX2_fit 20 = .ok (.aload_n 0, 1) := by decide +kernel
theorem dX2_fit_21 : decode cX2_fit 21 = .ok (.getfield 15, 3) := by decide +kernel
theorem dX2_fit_24 : decode cX2_fit 24 = .ok (.iload_n 3, 1) := by decide +kernel
theorem dX2_fit_25 : decode cX2_fit 25 = .ok (.iaload, 1) := by decide +kernel
theorem dX2_fit_26 : decode cX2_fit 26 = .ok (.iload_n 2, 1) := by decide +kernel
theorem dX2_fit_27 : decode cX2_fit 27 = .ok (.isub, 1) := by decide +kernel
theorem dX2_fit_28 : decode cX2_fit 28 = .ok (.invokestatic 22, 3) := by decide +kernel
theorem dX2_fit_31 : decode cX2_fit 31 = .ok (.iconst 3, 1) := by decide +kernel
theorem dX2_fit_32 : decode cX2_fit 32 = .ok (.if_icmp .le 5, 3) := by decide +kernel
theorem dX2_fit_35 : decode cX2_fit 35 = .ok (.iconst 0, 1) := by decide +kernel
theorem dX2_fit_36 : decode cX2_fit 36 = .ok (.ireturn, 1) := by decide +kernel
theorem dX2_fit_37 : decode cX2_fit 37 = .ok (.iinc 3 1, 3) := by decide +kernel
theorem dX2_fit_40 : decode cX2_fit 40 = .ok (.goto (-38), 3) := by decide +kernel
theorem dX2_fit_43 : decode cX2_fit 43 = .ok (.iconst 1, 1) := by decide +kernel
theorem dX2_fit_44 : decode cX2_fit 44 = .ok (.ireturn, 1) := by decide +kernel
set_option maxRecDepth 20000 in
theorem ggX3_init_X1_init : GoodIn wsX3_init wsX1_init := goodIn_r _ [9, 10, 2, 3, 11, 12, 13, 14, 15, 16, 17, 20, 21, 22, 23, 24, 25, 26, 27, 28, 29, 30, 31] (by decide +kernel) (by decide +kernel)
set_option maxRecDepth 20000 in
theorem gX3_init_X1_init_n17 : GoodIn wsX3_init (wsX1_init) := ggX3_init_X1_init
theorem dX3_init_0 : decode cX3_init 0 = .ok (.aload_n 0, 1) := by decide +kernel
theorem dX3_init_1 : decode cX3_init 1 = .ok (.invokespecial 3, 3) := by decide +kernel
theorem dX3_init_4 : decode cX3_init 4 = .ok (.aload_n 0, 1) := by decide +kernel
theorem dX3_init_5 : decode cX3_init 5 = .ok (.iconst 2, 1) := by decide +kernel
theorem dX3_init_6 : decode cX3_init 6 = .ok (.anewarray 9, 3) := by decide +kernel
theorem dX3_init_9 : decode cX3_init 9 = .ok (.putfield 11, 3) := by decide +kernel
theorem dX3_init_12 : decode cX3_init 12 = .ok (.iconst 0, 1) := by decide +kernel
theorem dX3_init_13 : decode cX3_init 13 = .ok (.istore_n 1, 1) := by decide +kernel
theorem dX3_init_14 : decode cX3_init 14 = .ok (.iload_n 1, 1) := by decide +kernel
theorem dX3_init_15 : decode cX3_init 15 = .ok (.iconst 2, 1) := by decide +kernel
theorem dX3_init_16 : decode cX3_init 16 = .ok (.if_icmp .ge 22, 3) := by decide +kernel
theorem dX3_init_19 : decode cX3_init 19 = .ok (.aload_n 0, 1) := by decide +kernel
theorem dX3_init_20 : decode cX3_init 20 = .ok (.getfield 11, 3) := by decide +kernel
theorem dX3_init_23 : decode cX3_init 23 = .ok (.iload_n 1, 1) := by decide +kernel
theorem dX3_init_24 : decode cX3_init 24 = .ok (.new 9, 3) := by decide +kernel
theorem dX3_init_27 : decode cX3_init 27 = .ok (.dup, 1) := by decide +kernel
theorem dX3_init_28 : decode cX3_init 28 = .ok (.invokespecial 17, 3) := by decide +kernel
theorem dX3_init_31 : decode cX3_init 31 = .ok (.aastore, 1) := by decide +kernel
theorem dX3_init_32 : decode cX3_init 32 = .ok (.iinc 1 1, 3) := by decide +kernel
theorem dX3_init_35 : decode cX3_init 35 = .ok (.goto (-21), 3) := by decide +kernel
theorem dX3_init_38 : decode cX3_init 38 = .ok (.return_, 1) := by decide +kernel
theorem dX3_clear_0 : decode cX3_clear 0 = .ok (.aload_n 0, 1) := by decide +kernel
theorem dX3_clear_1 : decode cX3_clear 1 = .ok (.iconst 0, 1) := by decide +kernel
theorem dX3_clear_2 : decode cX3_clear 2 = .ok (.putfield 18, 3) := by decide +kernel
theorem dX3_clear_5 : decode cX3_clear 5 = .ok (.return_, 1) := by decide +kernel
theorem dX3_isKept_0 : decode cX3_isKept 0 = .ok (.aload_n 0, 1) := by decide +kernel
theorem dX3_isKept_1 : decode cX3_isKept 1 = .ok (.getfield 18, 3) := by decide +kernel
theorem dX3_isKept_4 : decode cX3_isKept 4 = .ok (.iload_n 1, 1) := by decide +kernel
theorem dX3_isKept_5 : decode cX3_isKept 5 = .ok (.ishr, 1) := by decide +kernel
theorem dX3_isKept_6 : decode cX3_isKept 6 = .ok (.iconst 1, 1) := by decide +kernel
theorem dX3_isKept_7 : decode cX3_isKept 7 = .ok (.iand, 1) := by decide +kernel
theorem dX3_isKept_8 : decode cX3_isKept 8 = .ok (.iconst 1, 1) := by decide +kernel
theorem dX3_isKept_9 : decode cX3_isKept 9 = .ok (.if_icmp .ne 7, 3) := by decide +kernel
theorem dX3_isKept_12 : decode cX3_isKept 12 = .ok (.iconst 1, 1) := by decide +kernel
theorem dX3_isKept_13 : decode cX3_isKept 13 = .ok (.goto 4, 3) := by decide +kernel
theorem dX3_isKept_16 : decode cX3_isKept 16 = .ok (.iconst 0, 1) := by decide +kernel
theorem dX3_isKept_17 : decode cX3_isKept 17 = .ok (.ireturn, 1) := by decide +kernel
set_option maxRecDepth 20000 in
theorem ggX3_put_X1_copyFrom : GoodIn wsX3_put wsX1_copyFrom := goodIn_r _ [7, 8, 9, 10, 11, 12, 6, 13, 14, 15, 16, 17, 18, 19, 20, 21, 24, 25, 26, 27, 28, 29, 30, 31, 32, 33, 34, 35] (by decide +kernel) (by decide +kernel)
set_option maxRecDepth 20000 in
theorem gX3_put_X1_copyFrom : GoodIn wsX3_put (wsV RX3 22 RX1 yX1_copyFrom wsX1_copyFrom) := goodIn_app (goodIn_of _ (by decide +kernel)) ggX3_put_X1_copyFrom
theorem dX3_put_0 : decode cX3_put 0 = .ok (.aload_n 0, 1) := by decide +kernel
theorem dX3_put_1 : decode cX3_put 1 = .ok (.getfield 11, 3) := by decide +kernel
theorem dX3_put_4 : decode cX3_put 4 = .ok (.iload_n 1, 1) := by decide +kernel
theorem dX3_put_5 : decode cX3_put 5 = .ok (.aaload, 1) := by decide +kernel
theorem dX3_put_6 : decode cX3_put 6 = .ok (.aload_n 2, 1) := by decide +kernel
theorem dX3_put_7 : decode cX3_put 7 = .ok (.invokevirtual 22, 3) := by decide +kernel
theorem dX3_put_10 : decode cX3_put 10 = .ok (.aload_n 0, 1) := by decide +kernel
theorem dX3_put_11 : decode cX3_put 11 = .ok (.dup, 1) := by decide +kernel
theorem dX3_put_12 : decode cX3_put 12 = .ok (.getfield 18, 3) := by decide +kernel
theorem dX3_put_15 : decode cX3_put 15 = .ok (.iconst 1, 1) := by decide +kernel
theorem dX3_put_16 : decode cX3_put 16 = .ok (.iload_n 1, 1) := by decide +kernel
theorem dX3_put_17 : decode cX3_put 17 = .ok (.ishl, 1) := by decide +kernel
theorem dX3_put_18 : decode cX3_put 18 = .ok (.ior, 1) := by decide +kernel
theorem dX3_put_19 : decode cX3_put 19 = .ok (.putfield 18, 3) := by decide +kernel
theorem dX3_put_22 : decode cX3_put 22 = .ok (.return_, 1) := by decide +kernel
theorem dX3_at_0 : decode cX3_at 0 = .ok (.aload_n 0, 1) := by decide +kernel
theorem dX3_at_1 : decode cX3_at 1 = .ok (.getfield 11, 3) := by decide +kernel
theorem dX3_at_4 : decode cX3_at 4 = .ok (.iload_n 1, 1) := by decide +kernel
theorem dX3_at_5 : decode cX3_at 5 = .ok (.aaload, 1) := by decide +kernel
theorem dX3_at_6 : decode cX3_at 6 = .ok (.areturn, 1) := by decide +kernel
theorem dX4_init_0 : decode cX4_init 0 = .ok (.aload_n 0, 1) := by decide +kernel
theorem dX4_init_1 : decode cX4_init 1 = .ok (.invokespecial 3, 3) := by decide +kernel
theorem dX4_init_4 : decode cX4_init 4 = .ok (.aload_n 0, 1) := by decide +kernel
theorem dX4_init_5 : decode cX4_init 5 = .ok (.bipush 80, 2) := by decide +kernel
theorem dX4_init_7 : decode cX4_init 7 = .ok (.newarray .byte, 2) := by decide +kernel
theorem dX4_init_9 : decode cX4_init 9 = .ok (.putfield 9, 3) := by decide +kernel
theorem dX4_init_12 : decode cX4_init 12 = .ok (.aload_n 0, 1) := by decide +kernel
theorem dX4_init_13 : decode cX4_init 13 = .ok (.bipush (-9), 2) := by decide +kernel
theorem dX4_init_15 : decode cX4_init 15 = .ok (.putfield 15, 3) := by decide +kernel
theorem dX4_init_18 : decode cX4_init 18 = .ok (.return_, 1) := by decide +kernel
theorem dX4_append_0 : decode cX4_append 0 = .ok (.iload_n 1, 1) := by decide +kernel
theorem dX4_append_1 : decode cX4_append 1 = .ok (.bipush 80, 2) := by decide +kernel
theorem dX4_append_3 : decode cX4_append 3 = .ok (.aload_n 0, 1) := by decide +kernel
theorem dX4_append_4 : decode cX4_append 4 = .ok (.getfield 19, 3) := by decide +kernel
theorem dX4_append_7 : decode cX4_append 7 = .ok (.isub, 1) := by decide +kernel
theorem dX4_append_8 : decode cX4_append 8 = .ok (.if_icmp .le 6, 3) := by decide +kernel
theorem dX4_append_11 : decode cX4_append 11 = .ok (.bipush (-4), 2) := by decide +kernel
theorem dX4_append_13 : decode cX4_append 13 = .ok (.ireturn, 1) := by decide +kernel
theorem dX4_append_14 : decode cX4_append 14 = .ok (.iload_n 1, 1) := by decide +kernel
theorem dX4_append_15 : decode cX4_append 15 = .ok (.iconst 1, 1) := by decide +kernel
theorem dX4_append_16 : decode cX4_append 16 = .ok (.isub, 1) := by decide +kernel
theorem dX4_append_17 : decode cX4_append 17 = .ok (.istore 4, 2) := by decide +kernel
theorem dX4_append_19 : decode cX4_append 19 = .ok (.iload 4, 2) := by decide +kernel
theorem dX4_append_21 : decode cX4_append 21 = .ok (.ifCond .lt 37, 3) := by decide +kernel
theorem dX4_append_24 : decode cX4_append 24 = .ok (.aload_n 0, 1) := by decide +kernel
theorem dX4_append_25 : decode cX4_append 25 = .ok (.getfield 9, 3) := by decide +kernel
theorem dX4_append_28 : decode cX4_append 28 = .ok (.aload_n 0, 1) := by decide +kernel
theorem dX4_append_29 : decode cX4_append 29 = .ok (.getfield 19, 3) := by decide +kernel
theorem dX4_append_32 : decode cX4_append 32 = .ok (.lload_n 2, 1) := by decide +kernel
theorem dX4_append_33 : decode cX4_append 33 = .ok (.bipush 8, 2) := by decide +kernel
theorem dX4_append_35 : decode cX4_append 35 = .ok (.iload 4, 2) := by decide +kernel
theorem dX4_append_37 : decode cX4_append 37 = .ok (.imul, 1) := by decide +kernel
theorem dX4_append_38 : decode cX4_append 38 = .ok (.lushr, 1) := by decide +kernel
theorem dX4_append_39 : decode cX4_append 39 = .ok (.l2i, 1) := by decide +kernel
theorem dX4_append_40 : decode cX4_append 40 = .ok (.i2b, 1) := by decide +kernel
theorem dX4_append_41 : decode cX4_append 41 = .ok (.bastore, 1) := by decide +kernel
theorem dX4_append_42 : decode cX4_append 42 = .ok (.aload_n 0, 1) := by decide +kernel
theorem dX4_append_43 : decode cX4_append 43 = .ok (.dup, 1) := by decide +kernel
theorem dX4_append_44 : decode cX4_append 44 = .ok (.getfield 19, 3) := by decide +kernel
theorem dX4_append_47 : decode cX4_append 47 = .ok (.iconst 1, 1) := by decide +kernel
theorem dX4_append_48 : decode cX4_append 48 = .ok (.iadd, 1) := by decide +kernel
theorem dX4_append_49 : decode cX4_append 49 = .ok (.putfield 19, 3) := by decide +kernel
theorem dX4_append_52 : decode cX4_append 52 = .ok (.iinc 4 (-1), 3) := by decide +kernel
theorem dX4_append_55 : decode cX4_append 55 = .ok (.goto (-36), 3) := by decide +kernel
theorem dX4_append_58 : decode cX4_append 58 = .ok (.aload_n 0, 1) := by decide +kernel
theorem dX4_append_59 : decode cX4_append 59 = .ok (.getfield 19, 3) := by decide +kernel
theorem dX4_append_62 : decode cX4_append 62 = .ok (.ireturn, 1) := by decide +kernel
theorem dX4_clear_0 : decode cX4_clear 0 = .ok (.aload_n 0, 1) := by decide +kernel
theorem dX4_clear_1 : decode cX4_clear 1 = .ok (.getfield 19, 3) := by decide +kernel
theorem dX4_clear_4 : decode cX4_clear 4 = .ok (.istore_n 1, 1) := by decide +kernel
theorem dX4_clear_5 : decode cX4_clear 5 = .ok (.aload_n 0, 1) := by decide +kernel
theorem dX4_clear_6 : decode cX4_clear 6 = .ok (.iconst 0, 1) := by decide +kernel
theorem dX4_clear_7 : decode cX4_clear 7 = .ok (.putfield 19, 3) := by decide +kernel
theorem dX4_clear_10 : decode cX4_clear 10 = .ok (.iload_n 1, 1) := by decide +kernel
theorem dX4_clear_11 : decode cX4_clear 11 = .ok (.ireturn, 1) := by decide +kernel
set_option maxRecDepth 20000 in
theorem ggX4_read_X1_clear : GoodIn wsX4_read wsX1_clear := goodIn_r _ [8, 9, 10, 11, 12, 13, 69, 70, 71, 72, 73, 74, 75, 76, 77, 78, 79, 80] (by decide +kernel) (by decide +kernel)
set_option maxRecDepth 20000 in
theorem gX4_read_X1_clear : GoodIn wsX4_read (wsV RX4 25 RX1 yX1_clear wsX1_clear) := goodIn_app (goodIn_of _ (by decide +kernel)) ggX4_read_X1_clear
set_option maxRecDepth 20000 in
theorem ggX4_read_X5_clear : GoodIn wsX4_read wsX5_clear := goodIn_r _ [18, 19, 81, 82, 83] (by decide +kernel) (by decide +kernel)
set_option maxRecDepth 20000 in
theorem gX4_read_X5_clear : GoodIn wsX4_read (wsV RX4 30 RX5 yX5_clear wsX5_clear) := goodIn_app (goodIn_of _ (by decide +kernel)) ggX4_read_X5_clear
set_option maxRecDepth 20000 in
theorem ggX4_read_X4_readLetter : GoodIn wsX4_read wsX4_readLetter := goodIn_r _ [24, 2, 1, 25, 26, 27, 23, 28, 3, 29, 65, 66, 67, 68] (by decide +kernel) (by decide +kernel)
set_option maxRecDepth 20000 in
theorem gX4_read_X4_readLetter : GoodIn wsX4_read (wsV RX4 33 RX4 yX4_readLetter wsX4_readLetter) := goodIn_app (goodIn_of _ (by decide +kernel)) ggX4_read_X4_readLetter
set_option maxRecDepth 20000 in
theorem ggX4_read_X4_readDigit : GoodIn wsX4_read wsX4_readDigit := goodIn_r _ [33, 2, 1, 25, 26, 27, 23, 28, 3, 29, 65, 66, 67, 68] (by decide +kernel) (by decide +kernel)
set_option maxRecDepth 20000 in
theorem gX4_read_X4_readDigit : GoodIn wsX4_read (wsV RX4 37 RX4 yX4_readDigit wsX4_readDigit) := goodIn_app (goodIn_of _ (by decide +kernel)) ggX4_read_X4_readDigit
set_option maxRecDepth 20000 in
theorem ggX4_read_X4_readPart : GoodIn wsX4_read wsX4_readPart := goodIn_r _ [37, 1, 2, 25, 26, 27, 23, 28, 3, 29, 38, 39, 40, 41, 20, 21, 22, 24, 30, 31, 32, 33, 42, 43, 44, 7, 45, 9, 46, 47, 48, 49, 50, 51, 52, 53, 54, 55, 56, 57, 58, 59, 60, 61, 17, 62, 19, 63, 64, 69, 70, 71, 72, 73, 74, 75, 76, 77, 78, 79, 80, 81, 82, 83, 65, 66, 67, 68] (by decide +kernel) (by decide +kernel)
set_option maxRecDepth 20000 in
theorem gX4_read_X4_readPart : GoodIn wsX4_read (wsV RX4 47 RX4 yX4_readPart wsX4_readPart) := goodIn_app (goodIn_of _ (by decide +kernel)) ggX4_read_X4_readPart
theorem dX4_read_0 : decode cX4_read 0 = .ok (.aload_n 0, 1) := by decide +kernel
theorem dX4_read_1 : decode cX4_read 1 = .ok (.iconst 0, 1) := by decide +kernel
theorem dX4_read_2 : decode cX4_read 2 = .ok (.putfield 22, 3) := by decide +kernel
theorem dX4_read_5 : decode cX4_read 5 = .ok (.aload_n 0, 1) := by decide +kernel
theorem dX4_read_6 : decode cX4_read 6 = .ok (.bipush (-9), 2) := by decide +kernel
theorem dX4_read_8 : decode cX4_read 8 = .ok (.putfield 15, 3) := by decide +kernel
theorem dX4_read_11 : decode cX4_read 11 = .ok (.aload_n 1, 1) := by decide +kernel
theorem dX4_read_12 : decode cX4_read 12 = .ok (.invokevirtual 25, 3) := by decide +kernel
theorem dX4_read_15 : decode cX4_read 15 = .ok (.aload_n 2, 1) := by decide +kernel
theorem dX4_read_16 : decode cX4_read 16 = .ok (.invokevirtual 30, 3) := by decide +kernel
theorem dX4_read_19 : decode cX4_read 19 = .ok (.aload_n 0, 1) := by decide +kernel
theorem dX4_read_20 : decode cX4_read 20 = .ok (.bipush 82, 2) := by decide +kernel
theorem dX4_read_22 : decode cX4_read 22 = .ok (.invokevirtual 33, 3) := by decide +kernel
theorem dX4_read_25 : decode cX4_read 25 = .ok (.aload_n 1, 1) := by decide +kernel
theorem dX4_read_26 : decode cX4_read 26 = .ok (.aload_n 0, 1) := by decide +kernel
theorem dX4_read_27 : decode cX4_read 27 = .ok (.iconst 0, 1) := by decide +kernel
theorem dX4_read_28 : decode cX4_read 28 = .ok (.bipush 9, 2) := by decide +kernel
theorem dX4_read_30 : decode cX4_read 30 = .ok (.invokevirtual 37, 3) := by decide +kernel
theorem dX4_read_33 : decode cX4_read 33 = .ok (.putfield 41, 3) := by decide +kernel
theorem dX4_read_36 : decode cX4_read 36 = .ok (.aload_n 1, 1) := by decide +kernel
theorem dX4_read_37 : decode cX4_read 37 = .ok (.aload_n 0, 1) := by decide +kernel
theorem dX4_read_38 : decode cX4_read 38 = .ok (.iconst 0, 1) := by decide +kernel
theorem dX4_read_39 : decode cX4_read 39 = .ok (.bipush 9, 2) := by decide +kernel
theorem dX4_read_41 : decode cX4_read 41 = .ok (.invokevirtual 37, 3) := by decide +kernel
theorem dX4_read_44 : decode cX4_read 44 = .ok (.putfield 44, 3) := by decide +kernel
theorem dX4_read_47 : decode cX4_read 47 = .ok (.iconst 0, 1) := by decide +kernel
theorem dX4_read_48 : decode cX4_read 48 = .ok (.istore_n 3, 1) := by decide +kernel
theorem dX4_read_49 : decode cX4_read 49 = .ok (.iload_n 3, 1) := by decide +kernel
theorem dX4_read_50 : decode cX4_read 50 = .ok (.bipush 80, 2) := by decide +kernel
theorem dX4_read_52 : decode cX4_read 52 = .ok (.if_icmp .ge 35, 3) := by decide +kernel
theorem dX4_read_55 : decode cX4_read 55 = .ok (.aload_n 0, 1) := by decide +kernel
theorem dX4_read_56 : decode cX4_read 56 = .ok (.getfield 15, 3) := by decide +kernel
theorem dX4_read_59 : decode cX4_read 59 = .ok (.bipush (-9), 2) := by decide +kernel
theorem dX4_read_61 : decode cX4_read 61 = .ok (.if_icmp .ne 26, 3) := by decide +kernel
theorem dX4_read_64 : decode cX4_read 64 = .ok (.aload_n 0, 1) := by decide +kernel
theorem dX4_read_65 : decode cX4_read 65 = .ok (.getfield 22, 3) := by decide +kernel
theorem dX4_read_68 : decode cX4_read 68 = .ok (.aload_n 0, 1) := by decide +kernel
theorem dX4_read_69 : decode cX4_read 69 = .ok (.getfield 19, 3) := by decide +kernel
theorem dX4_read_72 : decode cX4_read 72 = .ok (.if_icmp .ge 15, 3) := by decide +kernel
theorem dX4_read_75 : decode cX4_read 75 = .ok (.aload_n 0, 1) := by decide +kernel
theorem dX4_read_76 : decode cX4_read 76 = .ok (.aload_n 1, 1) := by decide +kernel
theorem dX4_read_77 : decode cX4_read 77 = .ok (.aload_n 2, 1) := by decide +kernel
theorem dX4_read_78 : decode cX4_read 78 = .ok (.invokevirtual 47, 3) := by decide +kernel
theorem dX4_read_81 : decode cX4_read 81 = .ok (.iinc 3 1, 3) := by decide +kernel
theorem dX4_read_84 : decode cX4_read 84 = .ok (.goto (-35), 3) := by decide +kernel
theorem dX4_read_87 : decode cX4_read 87 = .ok (.aload_n 0, 1) := by decide +kernel
theorem dX4_read_88 : decode cX4_read 88 = .ok (.getfield 15, 3) := by decide +kernel
theorem dX4_read_91 : decode cX4_read 91 = .ok (.ireturn, 1) := by decide +kernel
set_option maxRecDepth 20000 in
theorem ggX4_readPart_X4_byteHere : GoodIn wsX4_readPart wsX4_byteHere := goodIn_r _ [7, 1, 8, 9, 64, 65, 66, 67] (by decide +kernel) (by decide +kernel)
set_option maxRecDepth 20000 in
theorem gX4_readPart_X4_byteHere : GoodIn wsX4_readPart (wsV RX4 51 RX4 yX4_byteHere wsX4_byteHere) := goodIn_app (goodIn_of _ (by decide +kernel)) ggX4_readPart_X4_byteHere
set_option maxRecDepth 20000 in
theorem ggX4_readPart_X4_readRing : GoodIn wsX4_readPart wsX4_readRing := goodIn_r _ [13, 2, 1, 14, 15, 16, 6, 17, 3, 4, 5, 7, 8, 9, 18, 19, 20, 21, 22, 23, 24, 25, 26, 27, 28, 29, 30, 31, 32, 33, 34, 35, 36, 64, 65, 66, 67, 49, 50, 51, 52, 53, 54, 55, 56, 57, 58, 59, 60] (by decide +kernel) (by decide +kernel)
set_option maxRecDepth 20000 in
theorem gX4_readPart_X4_readRing : GoodIn wsX4_readPart (wsV RX4 58 RX4 yX4_readRing wsX4_readRing) := goodIn_app (goodIn_of _ (by decide +kernel)) ggX4_readPart_X4_readRing
set_option maxRecDepth 20000 in
theorem ggX4_readPart_X4_readStuff : GoodIn wsX4_readPart wsX4_readStuff := goodIn_r _ [40, 2, 14, 15, 16, 6, 17, 1, 3, 4, 5, 7, 8, 9, 18, 19, 20, 21, 41, 42, 43, 44, 45, 46, 47, 48, 64, 65, 66, 67, 61, 62, 63] (by decide +kernel) (by decide +kernel)
set_option maxRecDepth 20000 in
theorem gX4_readPart_X4_readStuff : GoodIn wsX4_readPart (wsV RX4 65 RX4 yX4_readStuff wsX4_readStuff) := goodIn_app (goodIn_of _ (by decide +kernel)) ggX4_readPart_X4_readStuff
theorem dX4_readPart_0 : decode cX4_readPart 0 = .ok (.aload_n 0, 1) := by decide +kernel
theorem dX4_readPart_1 : decode cX4_readPart 1 = .ok (.invokevirtual 51, 3) := by decide +kernel
theorem dX4_readPart_4 : decode cX4_readPart 4 = .ok (.istore_n 3, 1) := by decide +kernel
theorem dX4_readPart_5 : decode cX4_readPart 5 = .ok (.iload_n 3, 1) := by decide +kernel
theorem dX4_readPart_6 : decode cX4_readPart 6 = .ok (.bipush 71, 2) := by decide +kernel
theorem dX4_readPart_8 : decode cX4_readPart 8 = .ok (.if_icmp .ne 20, 3) := by decide +kernel
theorem dX4_readPart_11 : decode cX4_readPart 11 = .ok (.aload_n 1, 1) := by decide +kernel
theorem dX4_readPart_12 : decode cX4_readPart 12 = .ok (.getfield 55, 3) := by decide +kernel
theorem dX4_readPart_15 : decode cX4_readPart 15 = .ok (.bipush 8, 2) := by decide +kernel
theorem dX4_readPart_17 : decode cX4_readPart 17 = .ok (.if_icmp .ge 11, 3) := by decide +kernel
theorem dX4_readPart_20 : decode cX4_readPart 20 = .ok (.aload_n 0, 1) := by decide +kernel
theorem dX4_readPart_21 : decode cX4_readPart 21 = .ok (.aload_n 1, 1) := by decide +kernel
theorem dX4_readPart_22 : decode cX4_readPart 22 = .ok (.invokevirtual 58, 3) := by decide +kernel
theorem dX4_readPart_25 : decode cX4_readPart 25 = .ok (.goto 33, 3) := by decide +kernel
theorem dX4_readPart_28 : decode cX4_readPart 28 = .ok (.iload_n 3, 1) := by decide +kernel
theorem dX4_readPart_29 : decode cX4_readPart 29 = .ok (.bipush 83, 2) := by decide +kernel
theorem dX4_readPart_31 : decode cX4_readPart 31 = .ok (.if_icmp .ne 19, 3) := by decide +kernel
theorem dX4_readPart_34 : decode cX4_readPart 34 = .ok (.aload_n 2, 1) := by decide +kernel
theorem dX4_readPart_35 : decode cX4_readPart 35 = .ok (.getfield 62, 3) := by decide +kernel
theorem dX4_readPart_38 : decode cX4_readPart 38 = .ok (.iconst 5, 1) := by decide +kernel
theorem dX4_readPart_39 : decode cX4_readPart 39 = .ok (.if_icmp .ge 11, 3) := by decide +kernel
theorem dX4_readPart_42 : decode cX4_readPart 42 = .ok (.aload_n 0, 1) := by decide +kernel
theorem dX4_readPart_43 : decode cX4_readPart 43 = .ok (.aload_n 2, 1) := by decide +kernel
theorem dX4_readPart_44 : decode cX4_readPart 44 = .ok (.invokevirtual 65, 3) := by decide +kernel
theorem dX4_readPart_47 : decode cX4_readPart 47 = .ok (.goto 11, 3) := by decide +kernel
theorem dX4_readPart_50 : decode cX4_readPart 50 = .ok (.aload_n 0, 1) := by decide +kernel
theorem dX4_readPart_51 : decode cX4_readPart 51 = .ok (.aload_n 0, 1) := by decide +kernel
theorem dX4_readPart_52 : decode cX4_readPart 52 = .ok (.getfield 22, 3) := by decide +kernel
theorem dX4_readPart_55 : decode cX4_readPart 55 = .ok (.putfield 15, 3) := by decide +kernel
theorem dX4_readPart_58 : decode cX4_readPart 58 = .ok (.return_, 1) := by decide +kernel
set_option maxRecDepth 20000 in
theorem ggX4_readRing_X4_readLetter : GoodIn wsX4_readRing wsX4_readLetter := goodIn_r _ [7, 1, 2, 8, 9, 10, 6, 11, 12, 13, 33, 34, 35, 36] (by decide +kernel) (by decide +kernel)
set_option maxRecDepth 20000 in
theorem gX4_readRing_X4_readLetter : GoodIn wsX4_readRing (wsV RX4 33 RX4 yX4_readLetter wsX4_readLetter) := goodIn_app (goodIn_of _ (by decide +kernel)) ggX4_readRing_X4_readLetter
set_option maxRecDepth 20000 in
theorem ggX4_readRing_X4_readDigit : GoodIn wsX4_readRing wsX4_readDigit := goodIn_r _ [17, 1, 2, 8, 9, 10, 6, 11, 12, 13, 33, 34, 35, 36] (by decide +kernel) (by decide +kernel)
set_option maxRecDepth 20000 in
theorem gX4_readRing_X4_readDigit : GoodIn wsX4_readRing (wsV RX4 37 RX4 yX4_readDigit wsX4_readDigit) := goodIn_app (goodIn_of _ (by decide +kernel)) ggX4_readRing_X4_readDigit
set_option maxRecDepth 20000 in
theorem ggX4_readRing_X1_ringIn : GoodIn wsX4_readRing wsX1_ringIn := goodIn_r _ [22, 23, 24, 37, 38, 39, 40, 41, 42, 43, 44, 45, 46, 47, 48] (by decide +kernel) (by decide +kernel)
set_option maxRecDepth 20000 in
theorem gX4_readRing_X1_ringIn : GoodIn wsX4_readRing (wsV RX4 69 RX1 yX1_ringIn wsX1_ringIn) := goodIn_app (goodIn_of _ (by decide +kernel)) ggX4_readRing_X1_ringIn
set_option maxRecDepth 20000 in
theorem ggX4_readRing_X1_add : GoodIn wsX4_readRing wsX1_add := goodIn_r _ [28, 23, 29, 24, 30, 31, 32, 37, 38, 39, 40, 41, 42, 43, 44, 45, 46, 47, 48] (by decide +kernel) (by decide +kernel)
set_option maxRecDepth 20000 in
theorem gX4_readRing_X1_add : GoodIn wsX4_readRing (wsV RX4 73 RX1 yX1_add wsX1_add) := goodIn_app (goodIn_of _ (by decide +kernel)) ggX4_readRing_X1_add
theorem dX4_readRing_0 : decode cX4_readRing 0 = .ok (.aload_n 0, 1) := by decide +kernel
theorem dX4_readRing_1 : decode cX4_readRing 1 = .ok (.bipush 71, 2) := by decide +kernel
theorem dX4_readRing_3 : decode cX4_readRing 3 = .ok (.invokevirtual 33, 3) := by decide +kernel
theorem dX4_readRing_6 : decode cX4_readRing 6 = .ok (.aload_n 0, 1) := by decide +kernel
theorem dX4_readRing_7 : decode cX4_readRing 7 = .ok (.iconst 0, 1) := by decide +kernel
theorem dX4_readRing_8 : decode cX4_readRing 8 = .ok (.iconst 4, 1) := by decide +kernel
theorem dX4_readRing_9 : decode cX4_readRing 9 = .ok (.invokevirtual 37, 3) := by decide +kernel
theorem dX4_readRing_12 : decode cX4_readRing 12 = .ok (.istore_n 2, 1) := by decide +kernel
theorem dX4_readRing_13 : decode cX4_readRing 13 = .ok (.aload_n 0, 1) := by decide +kernel
theorem dX4_readRing_14 : decode cX4_readRing 14 = .ok (.iconst 0, 1) := by decide +kernel
theorem dX4_readRing_15 : decode cX4_readRing 15 = .ok (.bipush 9, 2) := by decide +kernel
theorem dX4_readRing_17 : decode cX4_readRing 17 = .ok (.invokevirtual 37, 3) := by decide +kernel
theorem dX4_readRing_20 : decode cX4_readRing 20 = .ok (.istore_n 3, 1) := by decide +kernel
theorem dX4_readRing_21 : decode cX4_readRing 21 = .ok (.aload_n 0, 1) := by decide +kernel
theorem dX4_readRing_22 : decode cX4_readRing 22 = .ok (.iconst 0, 1) := by decide +kernel
theorem dX4_readRing_23 : decode cX4_readRing 23 = .ok (.bipush 9, 2) := by decide +kernel
theorem dX4_readRing_25 : decode cX4_readRing 25 = .ok (.invokevirtual 37, 3) := by decide +kernel
theorem dX4_readRing_28 : decode cX4_readRing 28 = .ok (.istore 4, 2) := by decide +kernel
theorem dX4_readRing_30 : decode cX4_readRing 30 = .ok (.bipush 10, 2) := by decide +kernel
theorem dX4_readRing_32 : decode cX4_readRing 32 = .ok (.iload 4, 2) := by decide +kernel
theorem dX4_readRing_34 : decode cX4_readRing 34 = .ok (.imul, 1) := by decide +kernel
theorem dX4_readRing_35 : decode cX4_readRing 35 = .ok (.iload_n 3, 1) := by decide +kernel
theorem dX4_readRing_36 : decode cX4_readRing 36 = .ok (.iadd, 1) := by decide +kernel
theorem dX4_readRing_37 : decode cX4_readRing 37 = .ok (.istore 5, 2) := by decide +kernel
theorem dX4_readRing_39 : decode cX4_readRing 39 = .ok (.aload_n 0, 1) := by decide +kernel
theorem dX4_readRing_40 : decode cX4_readRing 40 = .ok (.getfield 15, 3) := by decide +kernel
theorem dX4_readRing_43 : decode cX4_readRing 43 = .ok (.bipush (-9), 2) := by decide +kernel
theorem dX4_readRing_45 : decode cX4_readRing 45 = .ok (.if_icmp .ne 24, 3) := by decide +kernel
theorem dX4_readRing_48 : decode cX4_readRing 48 = .ok (.aload_n 1, 1) := by decide +kernel
theorem dX4_readRing_49 : decode cX4_readRing 49 = .ok (.iload 5, 2) := by decide +kernel
theorem dX4_readRing_51 : decode cX4_readRing 51 = .ok (.invokevirtual 69, 3) := by decide +kernel
theorem dX4_readRing_54 : decode cX4_readRing 54 = .ok (.bipush (-9), 2) := by decide +kernel
theorem dX4_readRing_56 : decode cX4_readRing 56 = .ok (.if_icmp .eq 13, 3) := by decide +kernel
theorem dX4_readRing_59 : decode cX4_readRing 59 = .ok (.aload_n 0, 1) := by decide +kernel
theorem dX4_readRing_60 : decode cX4_readRing 60 = .ok (.aload_n 0, 1) := by decide +kernel
theorem dX4_readRing_61 : decode cX4_readRing 61 = .ok (.getfield 22, 3) := by decide +kernel
theorem dX4_readRing_64 : decode cX4_readRing 64 = .ok (.iconst 1, 1) := by decide +kernel
theorem dX4_readRing_65 : decode cX4_readRing 65 = .ok (.isub, 1) := by decide +kernel
theorem dX4_readRing_66 : decode cX4_readRing 66 = .ok (.putfield 15, 3) := by decide +kernel
theorem dX4_readRing_69 : decode cX4_readRing 69 = .ok (.aload_n 0, 1) := by decide +kernel
theorem dX4_readRing_70 : decode cX4_readRing 70 = .ok (.iconst 1, 1) := by decide +kernel
theorem dX4_readRing_71 : decode cX4_readRing 71 = .ok (.bipush 9, 2) := by decide +kernel
theorem dX4_readRing_73 : decode cX4_readRing 73 = .ok (.invokevirtual 37, 3) := by decide +kernel
theorem dX4_readRing_76 : decode cX4_readRing 76 = .ok (.istore 6, 2) := by decide +kernel
theorem dX4_readRing_78 : decode cX4_readRing 78 = .ok (.aload_n 0, 1) := by decide +kernel
theorem dX4_readRing_79 : decode cX4_readRing 79 = .ok (.iconst 1, 1) := by decide +kernel
theorem dX4_readRing_80 : decode cX4_readRing 80 = .ok (.bipush 9, 2) := by decide +kernel
theorem dX4_readRing_82 : decode cX4_readRing 82 = .ok (.invokevirtual 37, 3) := by decide +kernel
theorem dX4_readRing_85 : decode cX4_readRing 85 = .ok (.istore 7, 2) := by decide +kernel
theorem dX4_readRing_87 : decode cX4_readRing 87 = .ok (.aload_n 0, 1) := by decide +kernel
theorem dX4_readRing_88 : decode cX4_readRing 88 = .ok (.iconst 0, 1) := by decide +kernel
theorem dX4_readRing_89 : decode cX4_readRing 89 = .ok (.bipush 9, 2) := by decide +kernel
theorem dX4_readRing_91 : decode cX4_readRing 91 = .ok (.invokevirtual 37, 3) := by decide +kernel
theorem dX4_readRing_94 : decode cX4_readRing 94 = .ok (.istore 8, 2) := by decide +kernel
theorem dX4_readRing_96 : decode cX4_readRing 96 = .ok (.aload_n 0, 1) := by decide +kernel
theorem dX4_readRing_97 : decode cX4_readRing 97 = .ok (.getfield 15, 3) := by decide +kernel
theorem dX4_readRing_100 : decode cX4_readRing 100 = .ok (.bipush (-9), 2) := by decide +kernel
theorem dX4_readRing_102 : decode cX4_readRing 102 = .ok (.if_icmp .ne 16, 3) := by decide +kernel
theorem dX4_readRing_105 : decode cX4_readRing 105 = .ok (.aload_n 1, 1) := by decide +kernel
theorem dX4_readRing_106 : decode cX4_readRing 106 = .ok (.iload_n 2, 1) := by decide +kernel
theorem dX4_readRing_107 : decode cX4_readRing 107 = .ok (.iload 5, 2) := by decide +kernel
theorem dX4_readRing_109 : decode cX4_readRing 109 = .ok (.iload 6, 2) := by decide +kernel
theorem dX4_readRing_111 : decode cX4_readRing 111 = .ok (.iload 7, 2) := by decide +kernel
theorem dX4_readRing_113 : decode cX4_readRing 113 = .ok (.iload 8, 2) := by decide +kernel
theorem dX4_readRing_115 : decode cX4_readRing 115 = .ok (.invokevirtual 73, 3) := by decide +kernel
theorem dX4_readRing_118 : decode cX4_readRing 118 = .ok (.return_, 1) := by decide +kernel
set_option maxRecDepth 20000 in
theorem ggX4_readStuff_X4_readLetter : GoodIn wsX4_readStuff wsX4_readLetter := goodIn_r _ [6, 1, 7, 8, 9, 10, 5, 11, 12, 13, 26, 27, 28, 29] (by decide +kernel) (by decide +kernel)
set_option maxRecDepth 20000 in
theorem gX4_readStuff_X4_readLetter : GoodIn wsX4_readStuff (wsV RX4 33 RX4 yX4_readLetter wsX4_readLetter) := goodIn_app (goodIn_of _ (by decide +kernel)) ggX4_readStuff_X4_readLetter
set_option maxRecDepth 20000 in
theorem ggX4_readStuff_X4_readDigit : GoodIn wsX4_readStuff wsX4_readDigit := goodIn_r _ [17, 1, 7, 8, 9, 10, 5, 11, 12, 13, 26, 27, 28, 29] (by decide +kernel) (by decide +kernel)
set_option maxRecDepth 20000 in
theorem gX4_readStuff_X4_readDigit : GoodIn wsX4_readStuff (wsV RX4 37 RX4 yX4_readDigit wsX4_readDigit) := goodIn_app (goodIn_of _ (by decide +kernel)) ggX4_readStuff_X4_readDigit
set_option maxRecDepth 20000 in
theorem ggX4_readStuff_X5_add : GoodIn wsX4_readStuff wsX5_add := goodIn_r _ [22, 23, 24, 25, 30, 31, 32] (by decide +kernel) (by decide +kernel)
set_option maxRecDepth 20000 in
theorem gX4_readStuff_X5_add : GoodIn wsX4_readStuff (wsV RX4 77 RX5 yX5_add wsX5_add) := goodIn_app (goodIn_of _ (by decide +kernel)) ggX4_readStuff_X5_add
theorem dX4_readStuff_0 : decode cX4_readStuff 0 = .ok (.aload_n 0, 1) := by decide +kernel
theorem dX4_readStuff_1 : decode cX4_readStuff 1 = .ok (.bipush 83, 2) := by decide +kernel
theorem dX4_readStuff_3 : decode cX4_readStuff 3 = .ok (.invokevirtual 33, 3) := by decide +kernel
theorem dX4_readStuff_6 : decode cX4_readStuff 6 = .ok (.aload_n 0, 1) := by decide +kernel
theorem dX4_readStuff_7 : decode cX4_readStuff 7 = .ok (.iconst 0, 1) := by decide +kernel
theorem dX4_readStuff_8 : decode cX4_readStuff 8 = .ok (.bipush 9, 2) := by decide +kernel
theorem dX4_readStuff_10 : decode cX4_readStuff 10 = .ok (.invokevirtual 37, 3) := by decide +kernel
theorem dX4_readStuff_13 : decode cX4_readStuff 13 = .ok (.istore_n 2, 1) := by decide +kernel
theorem dX4_readStuff_14 : decode cX4_readStuff 14 = .ok (.aload_n 0, 1) := by decide +kernel
theorem dX4_readStuff_15 : decode cX4_readStuff 15 = .ok (.iconst 1, 1) := by decide +kernel
theorem dX4_readStuff_16 : decode cX4_readStuff 16 = .ok (.bipush 9, 2) := by decide +kernel
theorem dX4_readStuff_18 : decode cX4_readStuff 18 = .ok (.invokevirtual 37, 3) := by decide +kernel
theorem dX4_readStuff_21 : decode cX4_readStuff 21 = .ok (.istore_n 3, 1) := by decide +kernel
theorem dX4_readStuff_22 : decode cX4_readStuff 22 = .ok (.aload_n 0, 1) := by decide +kernel
theorem dX4_readStuff_23 : decode cX4_readStuff 23 = .ok (.getfield 15, 3) := by decide +kernel
theorem dX4_readStuff_26 : decode cX4_readStuff 26 = .ok (.bipush (-9), 2) := by decide +kernel
theorem dX4_readStuff_28 : decode cX4_readStuff 28 = .ok (.if_icmp .ne 9, 3) := by decide +kernel
theorem dX4_readStuff_31 : decode cX4_readStuff 31 = .ok (.aload_n 1, 1) := by decide +kernel
theorem dX4_readStuff_32 : decode cX4_readStuff 32 = .ok (.iload_n 2, 1) := by decide +kernel
theorem dX4_readStuff_33 : decode cX4_readStuff 33 = .ok (.iload_n 3, 1) := by decide +kernel
theorem dX4_readStuff_34 : decode cX4_readStuff 34 = .ok (.invokevirtual 77, 3) := by decide +kernel
theorem dX4_readStuff_37 : decode cX4_readStuff 37 = .ok (.return_, 1) := by decide +kernel
set_option maxRecDepth 20000 in
theorem ggX4_readLetter_X4_byteHere : GoodIn wsX4_readLetter wsX4_byteHere := goodIn_r _ [7, 2, 8, 9, 10, 11, 12, 13] (by decide +kernel) (by decide +kernel)
set_option maxRecDepth 20000 in
theorem gX4_readLetter_X4_byteHere : GoodIn wsX4_readLetter (wsV RX4 51 RX4 yX4_byteHere wsX4_byteHere) := goodIn_app (goodIn_of _ (by decide +kernel)) ggX4_readLetter_X4_byteHere
theorem dX4_readLetter_0 : decode cX4_readLetter 0 = .ok (.aload_n 0, 1) := by decide +kernel
theorem dX4_readLetter_1 : decode cX4_readLetter 1 = .ok (.getfield 15, 3) := by decide +kernel
theorem dX4_readLetter_4 : decode cX4_readLetter 4 = .ok (.bipush (-9), 2) := by decide +kernel
theorem dX4_readLetter_6 : decode cX4_readLetter 6 = .ok (.if_icmp .ne 32, 3) := by decide +kernel
theorem dX4_readLetter_9 : decode cX4_readLetter 9 = .ok (.aload_n 0, 1) := by decide +kernel
theorem dX4_readLetter_10 : decode cX4_readLetter 10 = .ok (.invokevirtual 51, 3) := by decide +kernel
theorem dX4_readLetter_13 : decode cX4_readLetter 13 = .ok (.iload_n 1, 1) := by decide +kernel
theorem dX4_readLetter_14 : decode cX4_readLetter 14 = .ok (.if_icmp .ne 16, 3) := by decide +kernel
theorem dX4_readLetter_17 : decode cX4_readLetter 17 = .ok (.aload_n 0, 1) := by decide +kernel
theorem dX4_readLetter_18 : decode cX4_readLetter 18 = .ok (.dup, 1) := by decide +kernel
theorem dX4_readLetter_19 : decode cX4_readLetter 19 = .ok (.getfield 22, 3) := by decide +kernel
theorem dX4_readLetter_22 : decode cX4_readLetter 22 = .ok (.iconst 1, 1) := by decide +kernel
theorem dX4_readLetter_23 : decode cX4_readLetter 23 = .ok (.iadd, 1) := by decide +kernel
theorem dX4_readLetter_24 : decode cX4_readLetter 24 = .ok (.putfield 22, 3) := by decide +kernel
theorem dX4_readLetter_27 : decode cX4_readLetter 27 = .ok (.goto 11, 3) := by decide +kernel
theorem dX4_readLetter_30 : decode cX4_readLetter 30 = .ok (.aload_n 0, 1) := by decide +kernel
theorem dX4_readLetter_31 : decode cX4_readLetter 31 = .ok (.aload_n 0, 1) := by decide +kernel
theorem dX4_readLetter_32 : decode cX4_readLetter 32 = .ok (.getfield 22, 3) := by decide +kernel
theorem dX4_readLetter_35 : decode cX4_readLetter 35 = .ok (.putfield 15, 3) := by decide +kernel
theorem dX4_readLetter_38 : decode cX4_readLetter 38 = .ok (.return_, 1) := by decide +kernel
set_option maxRecDepth 20000 in
theorem ggX4_readDigit_X4_byteHere : GoodIn wsX4_readDigit wsX4_byteHere := goodIn_r _ [7, 2, 8, 9, 10, 11, 12, 13] (by decide +kernel) (by decide +kernel)
set_option maxRecDepth 20000 in
theorem gX4_readDigit_X4_byteHere : GoodIn wsX4_readDigit (wsV RX4 51 RX4 yX4_byteHere wsX4_byteHere) := goodIn_app (goodIn_of _ (by decide +kernel)) ggX4_readDigit_X4_byteHere
theorem dX4_readDigit_0 : decode cX4_readDigit 0 = .ok (.aload_n 0, 1) := by decide +kernel
theorem dX4_readDigit_1 : decode cX4_readDigit 1 = .ok (.getfield 15, 3) := by decide +kernel
theorem dX4_readDigit_4 : decode cX4_readDigit 4 = .ok (.bipush (-9), 2) := by decide +kernel
theorem dX4_readDigit_6 : decode cX4_readDigit 6 = .ok (.if_icmp .eq 5, 3) := by decide +kernel
theorem dX4_readDigit_9 : decode cX4_readDigit 9 = .ok (.iload_n 1, 1) := by decide +kernel
theorem dX4_readDigit_10 : decode cX4_readDigit 10 = .ok (.ireturn, 1) := by decide +kernel
theorem dX4_readDigit_11 : decode cX4_readDigit 11 = .ok (.aload_n 0, 1) := by decide +kernel
theorem dX4_readDigit_12 : decode cX4_readDigit 12 = .ok (.invokevirtual 51, 3) := by decide +kernel
theorem dX4_readDigit_15 : decode cX4_readDigit 15 = .ok (.bipush 48, 2) := by decide +kernel
theorem dX4_readDigit_17 : decode cX4_readDigit 17 = .ok (.isub, 1) := by decide +kernel
theorem dX4_readDigit_18 : decode cX4_readDigit 18 = .ok (.istore_n 3, 1) := by decide +kernel
theorem dX4_readDigit_19 : decode cX4_readDigit 19 = .ok (.iload_n 3, 1) := by decide +kernel
theorem dX4_readDigit_20 : decode cX4_readDigit 20 = .ok (.iload_n 1, 1) := by decide +kernel
theorem dX4_readDigit_21 : decode cX4_readDigit 21 = .ok (.if_icmp .lt 8, 3) := by decide +kernel
theorem dX4_readDigit_24 : decode cX4_readDigit 24 = .ok (.iload_n 3, 1) := by decide +kernel
theorem dX4_readDigit_25 : decode cX4_readDigit 25 = .ok (.iload_n 2, 1) := by decide +kernel
theorem dX4_readDigit_26 : decode cX4_readDigit 26 = .ok (.if_icmp .le 13, 3) := by decide +kernel
theorem dX4_readDigit_29 : decode cX4_readDigit 29 = .ok (.aload_n 0, 1) := by decide +kernel
theorem dX4_readDigit_30 : decode cX4_readDigit 30 = .ok (.aload_n 0, 1) := by decide +kernel
theorem dX4_readDigit_31 : decode cX4_readDigit 31 = .ok (.getfield 22, 3) := by decide +kernel
theorem dX4_readDigit_34 : decode cX4_readDigit 34 = .ok (.putfield 15, 3) := by decide +kernel
theorem dX4_readDigit_37 : decode cX4_readDigit 37 = .ok (.iload_n 1, 1) := by decide +kernel
theorem dX4_readDigit_38 : decode cX4_readDigit 38 = .ok (.ireturn, 1) := by decide +kernel
theorem dX4_readDigit_39 : decode cX4_readDigit 39 = .ok (.aload_n 0, 1) := by decide +kernel
theorem dX4_readDigit_40 : decode cX4_readDigit 40 = .ok (.dup, 1) := by decide +kernel
theorem dX4_readDigit_41 : decode cX4_readDigit 41 = .ok (.getfield 22, 3) := by decide +kernel
theorem dX4_readDigit_44 : decode cX4_readDigit 44 = .ok (.iconst 1, 1) := by decide +kernel
theorem dX4_readDigit_45 : decode cX4_readDigit 45 = .ok (.iadd, 1) := by decide +kernel
theorem dX4_readDigit_46 : decode cX4_readDigit 46 = .ok (.putfield 22, 3) := by decide +kernel
theorem dX4_readDigit_49 : decode cX4_readDigit 49 = .ok (.iload_n 3, 1) := by decide +kernel
theorem dX4_readDigit_50 : decode cX4_readDigit 50 = .ok (.ireturn, 1) := by decide +kernel
theorem dX4_byteHere_0 : decode cX4_byteHere 0 = .ok (.aload_n 0, 1) := by decide +kernel
theorem dX4_byteHere_1 : decode cX4_byteHere 1 = .ok (.getfield 22, 3) := by decide +kernel
theorem dX4_byteHere_4 : decode cX4_byteHere 4 = .ok (.ifCond .lt 30, 3) := by decide +kernel
theorem dX4_byteHere_7 : decode cX4_byteHere 7 = .ok (.aload_n 0, 1) := by decide +kernel
theorem dX4_byteHere_8 : decode cX4_byteHere 8 = .ok (.getfield 22, 3) := by decide +kernel
theorem dX4_byteHere_11 : decode cX4_byteHere 11 = .ok (.aload_n 0, 1) := by decide +kernel
theorem dX4_byteHere_12 : decode cX4_byteHere 12 = .ok (.getfield 19, 3) := by decide +kernel
theorem dX4_byteHere_15 : decode cX4_byteHere 15 = .ok (.if_icmp .ge 19, 3) := by decide +kernel
theorem dX4_byteHere_18 : decode cX4_byteHere 18 = .ok (.aload_n 0, 1) := by decide +kernel
theorem dX4_byteHere_19 : decode cX4_byteHere 19 = .ok (.getfield 9, 3) := by decide +kernel
theorem dX4_byteHere_22 : decode cX4_byteHere 22 = .ok (.aload_n 0, 1) := by decide +kernel
theorem dX4_byteHere_23 : decode cX4_byteHere 23 = .ok (.getfield 22, 3) := by decide +kernel
theorem dX4_byteHere_26 : decode cX4_byteHere 26 = .ok (.baload, 1) := by decide +kernel
theorem dX4_byteHere_27 : decode cX4_byteHere 27 = .ok (.sipush 255, 3) := by decide +kernel
theorem dX4_byteHere_30 : decode cX4_byteHere 30 = .ok (.iand, 1) := by decide +kernel
theorem dX4_byteHere_31 : decode cX4_byteHere 31 = .ok (.goto 5, 3) := by decide +kernel
theorem dX4_byteHere_34 : decode cX4_byteHere 34 = .ok (.bipush (-9), 2) := by decide +kernel
theorem dX4_byteHere_36 : decode cX4_byteHere 36 = .ok (.ireturn, 1) := by decide +kernel
theorem dX5_init_0 : decode cX5_init 0 = .ok (.aload_n 0, 1) := by decide +kernel
theorem dX5_init_1 : decode cX5_init 1 = .ok (.invokespecial 3, 3) := by decide +kernel
theorem dX5_init_4 : decode cX5_init 4 = .ok (.aload_n 0, 1) := by decide +kernel
theorem dX5_init_5 : decode cX5_init 5 = .ok (.iconst 5, 1) := by decide +kernel
theorem dX5_init_6 : decode cX5_init 6 = .ok (.newarray .int, 2) := by decide +kernel
theorem dX5_init_8 : decode cX5_init 8 = .ok (.putfield 9, 3) := by decide +kernel
theorem dX5_init_11 : decode cX5_init 11 = .ok (.aload_n 0, 1) := by decide +kernel
theorem dX5_init_12 : decode cX5_init 12 = .ok (.iconst 5, 1) := by decide +kernel
theorem dX5_init_13 : decode cX5_init 13 = .ok (.newarray .int, 2) := by decide +kernel
theorem dX5_init_15 : decode cX5_init 15 = .ok (.putfield 15, 3) := by decide +kernel
theorem dX5_init_18 : decode cX5_init 18 = .ok (.return_, 1) := by decide +kernel
theorem dX5_clear_0 : decode cX5_clear 0 = .ok (.aload_n 0, 1) := by decide +kernel
theorem dX5_clear_1 : decode cX5_clear 1 = .ok (.iconst 0, 1) := by decide +kernel
theorem dX5_clear_2 : decode cX5_clear 2 = .ok (.putfield 18, 3) := by decide +kernel
theorem dX5_clear_5 : decode cX5_clear 5 = .ok (.return_, 1) := by decide +kernel
theorem dX5_add_0 : decode cX5_add 0 = .ok (.aload_n 0, 1) := by decide +kernel
theorem dX5_add_1 : decode cX5_add 1 = .ok (.getfield 18, 3) := by decide +kernel
theorem dX5_add_4 : decode cX5_add 4 = .ok (.iconst 5, 1) := by decide +kernel
theorem dX5_add_5 : decode cX5_add 5 = .ok (.if_icmp .ge 33, 3) := by decide +kernel
theorem dX5_add_8 : decode cX5_add 8 = .ok (.aload_n 0, 1) := by decide +kernel
theorem dX5_add_9 : decode cX5_add 9 = .ok (.getfield 9, 3) := by decide +kernel
theorem dX5_add_12 : decode cX5_add 12 = .ok (.aload_n 0, 1) := by decide +kernel
theorem dX5_add_13 : decode cX5_add 13 = .ok (.getfield 18, 3) := by decide +kernel
theorem dX5_add_16 : decode cX5_add 16 = .ok (.iload_n 1, 1) := by decide +kernel
theorem dX5_add_17 : decode cX5_add 17 = .ok (.iastore, 1) := by decide +kernel
theorem dX5_add_18 : decode cX5_add 18 = .ok (.aload_n 0, 1) := by decide +kernel
theorem dX5_add_19 : decode cX5_add 19 = .ok (.getfield 15, 3) := by decide +kernel
theorem dX5_add_22 : decode cX5_add 22 = .ok (.aload_n 0, 1) := by decide +kernel
theorem dX5_add_23 : decode cX5_add 23 = .ok (.getfield 18, 3) := by decide +kernel
theorem dX5_add_26 : decode cX5_add 26 = .ok (.iload_n 2, 1) := by decide +kernel
theorem dX5_add_27 : decode cX5_add 27 = .ok (.iastore, 1) := by decide +kernel
theorem dX5_add_28 : decode cX5_add 28 = .ok (.aload_n 0, 1) := by decide +kernel
theorem dX5_add_29 : decode cX5_add 29 = .ok (.dup, 1) := by decide +kernel
theorem dX5_add_30 : decode cX5_add 30 = .ok (.getfield 18, 3) := by decide +kernel
theorem dX5_add_33 : decode cX5_add 33 = .ok (.iconst 1, 1) := by decide +kernel
theorem dX5_add_34 : decode cX5_add 34 = .ok (.iadd, 1) := by decide +kernel
theorem dX5_add_35 : decode cX5_add 35 = .ok (.putfield 18, 3) := by decide +kernel
theorem dX5_add_38 : decode cX5_add 38 = .ok (.return_, 1) := by decide +kernel
theorem dX5_copyFrom_0 : decode cX5_copyFrom 0 = .ok (.aload_n 0, 1) := by decide +kernel
theorem dX5_copyFrom_1 : decode cX5_copyFrom 1 = .ok (.aload_n 1, 1) := by decide +kernel
theorem dX5_copyFrom_2 : decode cX5_copyFrom 2 = .ok (.getfield 18, 3) := by decide +kernel
theorem dX5_copyFrom_5 : decode cX5_copyFrom 5 = .ok (.putfield 18, 3) := by decide +kernel
theorem dX5_copyFrom_8 : decode cX5_copyFrom 8 = .ok (.iconst 0, 1) := by decide +kernel
theorem dX5_copyFrom_9 : decode cX5_copyFrom 9 = .ok (.istore_n 2, 1) := by decide +kernel
theorem dX5_copyFrom_10 : decode cX5_copyFrom 10 = .ok (.iload_n 2, 1) := by decide +kernel
theorem dX5_copyFrom_11 : decode cX5_copyFrom 11 = .ok (.aload_n 0, 1) := by decide +kernel
theorem dX5_copyFrom_12 : decode cX5_copyFrom 12 = .ok (.getfield 18, 3) := by decide +kernel
theorem dX5_copyFrom_15 : decode cX5_copyFrom 15 = .ok (.if_icmp .ge 33, 3) := by decide +kernel
theorem dX5_copyFrom_18 : decode cX5_copyFrom 18 = .ok (.aload_n 0, 1) := by decide +kernel
theorem dX5_copyFrom_19 : decode cX5_copyFrom 19 = .ok (.getfield 9, 3) := by decide +kernel
theorem dX5_copyFrom_22 : decode cX5_copyFrom 22 = .ok (.iload_n 2, 1) := by decide +kernel
theorem dX5_copyFrom_23 : decode cX5_copyFrom 23 = .ok (.aload_n 1, 1) := by decide +kernel
theorem dX5_copyFrom_24 : decode cX5_copyFrom 24 = .ok (.getfield 9, 3) := by decide +kernel
theorem dX5_copyFrom_27 : decode cX5_copyFrom 27 = .ok (.iload_n 2, 1) := by decide +kernel
theorem dX5_copyFrom_28 : decode cX5_copyFrom 28 = .ok (.iaload, 1) := by decide +kernel
theorem dX5_copyFrom_29 : decode cX5_copyFrom 29 = .ok (.iastore, 1) := by decide +kernel
theorem dX5_copyFrom_30 : decode cX5_copyFrom 30 = .ok (.aload_n 0, 1) := by decide +kernel
theorem dX5_copyFrom_31 : decode cX5_copyFrom 31 = .ok (.getfield 15, 3) := by decide +kernel
theorem dX5_copyFrom_34 : decode cX5_copyFrom 34 = .ok (.iload_n 2, 1) := by decide +kernel
theorem dX5_copyFrom_35 : decode cX5_copyFrom 35 = .ok (.aload_n 1, 1) := by decide +kernel
theorem dX5_copyFrom_36 : decode cX5_copyFrom 36 = .ok (.getfield 15, 3) := by decide +kernel
theorem dX5_copyFrom_39 : decode cX5_copyFrom 39 = .ok (.iload_n 2, 1) := by decide +kernel
theorem dX5_copyFrom_40 : decode cX5_copyFrom 40 = .ok (.iaload, 1) := by decide +kernel
theorem dX5_copyFrom_41 : decode cX5_copyFrom 41 = .ok (.iastore, 1) := by decide +kernel
theorem dX5_copyFrom_42 : decode cX5_copyFrom 42 = .ok (.iinc 2 1, 3) := by decide +kernel
theorem dX5_copyFrom_45 : decode cX5_copyFrom 45 = .ok (.goto (-35), 3) := by decide +kernel
theorem dX5_copyFrom_48 : decode cX5_copyFrom 48 = .ok (.return_, 1) := by decide +kernel
set_option maxRecDepth 20000 in
theorem ggX5_costOf_X5_sumOf : GoodIn wsX5_costOf wsX5_sumOf := goodIn_r _ [6, 7, 8, 9, 10] (by decide +kernel) (by decide +kernel)
set_option maxRecDepth 20000 in
theorem gX5_costOf_X5_sumOf : GoodIn wsX5_costOf (wsV RX5 22 RX5 yX5_sumOf wsX5_sumOf) := goodIn_app (goodIn_of _ (by decide +kernel)) ggX5_costOf_X5_sumOf
theorem dX5_costOf_0 : decode cX5_costOf 0 = .ok (.aload_n 0, 1) := by decide +kernel
theorem dX5_costOf_1 : decode cX5_costOf 1 = .ok (.aload_n 0, 1) := by decide +kernel
theorem dX5_costOf_2 : decode cX5_costOf 2 = .ok (.getfield 9, 3) := by decide +kernel
theorem dX5_costOf_5 : decode cX5_costOf 5 = .ok (.iload_n 1, 1) := by decide +kernel
theorem dX5_costOf_6 : decode cX5_costOf 6 = .ok (.invokevirtual 22, 3) := by decide +kernel
theorem dX5_costOf_9 : decode cX5_costOf 9 = .ok (.ireturn, 1) := by decide +kernel
set_option maxRecDepth 20000 in
theorem ggX5_eatenBy_X5_sumOf : GoodIn wsX5_eatenBy wsX5_sumOf := goodIn_r _ [6, 7, 8, 9, 10] (by decide +kernel) (by decide +kernel)
set_option maxRecDepth 20000 in
theorem gX5_eatenBy_X5_sumOf : GoodIn wsX5_eatenBy (wsV RX5 22 RX5 yX5_sumOf wsX5_sumOf) := goodIn_app (goodIn_of _ (by decide +kernel)) ggX5_eatenBy_X5_sumOf
theorem dX5_eatenBy_0 : decode cX5_eatenBy 0 = .ok (.aload_n 0, 1) := by decide +kernel
theorem dX5_eatenBy_1 : decode cX5_eatenBy 1 = .ok (.aload_n 0, 1) := by decide +kernel
theorem dX5_eatenBy_2 : decode cX5_eatenBy 2 = .ok (.getfield 15, 3) := by decide +kernel
theorem dX5_eatenBy_5 : decode cX5_eatenBy 5 = .ok (.iload_n 1, 1) := by decide +kernel
theorem dX5_eatenBy_6 : decode cX5_eatenBy 6 = .ok (.invokevirtual 22, 3) := by decide +kernel
theorem dX5_eatenBy_9 : decode cX5_eatenBy 9 = .ok (.ireturn, 1) := by decide +kernel
theorem dX5_sumOf_0 : decode cX5_sumOf 0 = .ok (.iconst 0, 1) := by decide +kernel
theorem dX5_sumOf_1 : decode cX5_sumOf 1 = .ok (.istore_n 3, 1) := by decide +kernel
theorem dX5_sumOf_2 : decode cX5_sumOf 2 = .ok (.iconst 0, 1) := by decide +kernel
theorem dX5_sumOf_3 : decode cX5_sumOf 3 = .ok (.istore 4, 2) := by decide +kernel
theorem dX5_sumOf_5 : decode cX5_sumOf 5 = .ok (.iload 4, 2) := by decide +kernel
theorem dX5_sumOf_7 : decode cX5_sumOf 7 = .ok (.aload_n 0, 1) := by decide +kernel
theorem dX5_sumOf_8 : decode cX5_sumOf 8 = .ok (.getfield 18, 3) := by decide +kernel
theorem dX5_sumOf_11 : decode cX5_sumOf 11 = .ok (.if_icmp .ge 30, 3) := by decide +kernel
theorem dX5_sumOf_14 : decode cX5_sumOf 14 = .ok (.iload_n 3, 1) := by decide +kernel
theorem dX5_sumOf_15 : decode cX5_sumOf 15 = .ok (.iload_n 2, 1) := by decide +kernel
theorem dX5_sumOf_16 : decode cX5_sumOf 16 = .ok (.iload 4, 2) := by decide +kernel
theorem dX5_sumOf_18 : decode cX5_sumOf 18 = .ok (.ishr, 1) := by decide +kernel
theorem dX5_sumOf_19 : decode cX5_sumOf 19 = .ok (.iconst 1, 1) := by decide +kernel
theorem dX5_sumOf_20 : decode cX5_sumOf 20 = .ok (.iand, 1) := by decide +kernel
theorem dX5_sumOf_21 : decode cX5_sumOf 21 = .ok (.iconst 1, 1) := by decide +kernel
theorem dX5_sumOf_22 : decode cX5_sumOf 22 = .ok (.if_icmp .ne 10, 3) := by decide +kernel
theorem dX5_sumOf_25 : decode cX5_sumOf 25 = .ok (.aload_n 1, 1) := by decide +kernel
theorem dX5_sumOf_26 : decode cX5_sumOf 26 = .ok (.iload 4, 2) := by decide +kernel
theorem dX5_sumOf_28 : decode cX5_sumOf 28 = .ok (.iaload, 1) := by decide +kernel
theorem dX5_sumOf_29 : decode cX5_sumOf 29 = .ok (.goto 4, 3) := by decide +kernel
theorem dX5_sumOf_32 : decode cX5_sumOf 32 = .ok (.iconst 0, 1) := by decide +kernel
theorem dX5_sumOf_33 : decode cX5_sumOf 33 = .ok (.iadd, 1) := by decide +kernel
theorem dX5_sumOf_34 : decode cX5_sumOf 34 = .ok (.istore_n 3, 1) := by decide +kernel
theorem dX5_sumOf_35 : decode cX5_sumOf 35 = .ok (.iinc 4 1, 3) := by decide +kernel
theorem dX5_sumOf_38 : decode cX5_sumOf 38 = .ok (.goto (-33), 3) := by decide +kernel
theorem dX5_sumOf_41 : decode cX5_sumOf 41 = .ok (.iload_n 3, 1) := by decide +kernel
theorem dX5_sumOf_42 : decode cX5_sumOf 42 = .ok (.ireturn, 1) := by decide +kernel
set_option maxRecDepth 20000 in
theorem ggX6_init_X4_init : GoodIn wsX6_init wsX4_init := goodIn_r _ [31, 32, 2, 3, 33, 34, 35, 68, 69, 70, 71] (by decide +kernel) (by decide +kernel)
set_option maxRecDepth 20000 in
theorem gX6_init_X4_init_n9 : GoodIn wsX6_init (wsX4_init) := ggX6_init_X4_init
set_option maxRecDepth 20000 in
theorem ggX6_init_X1_init : GoodIn wsX6_init wsX1_init := goodIn_r _ [37, 38, 2, 3, 39, 40, 41, 42, 43, 44, 45, 80, 81, 82, 83, 84, 85, 86, 87, 88, 89, 90, 91] (by decide +kernel) (by decide +kernel)
set_option maxRecDepth 20000 in
theorem gX6_init_X1_init_n18 : GoodIn wsX6_init (wsX1_init) := ggX6_init_X1_init
set_option maxRecDepth 20000 in
theorem ggX6_init_X5_init : GoodIn wsX6_init wsX5_init := goodIn_r _ [47, 48, 2, 3, 39, 49, 50, 92, 93, 94] (by decide +kernel) (by decide +kernel)
set_option maxRecDepth 20000 in
theorem gX6_init_X5_init_n28 : GoodIn wsX6_init (wsX5_init) := ggX6_init_X5_init
set_option maxRecDepth 20000 in
theorem ggX6_init_X0_init : GoodIn wsX6_init wsX0_init := goodIn_r _ [53, 54, 2, 3, 55, 56, 9, 10, 36, 37, 38, 39, 40, 41, 42, 43, 44, 45, 95, 96, 80, 81, 82, 83, 84, 85, 86, 87, 88, 89, 90, 91] (by decide +kernel) (by decide +kernel)
set_option maxRecDepth 20000 in
theorem gX6_init_X0_init : GoodIn wsX6_init (wsX0_init) := ggX6_init_X0_init
set_option maxRecDepth 20000 in
theorem ggX6_init_X2_init : GoodIn wsX6_init wsX2_init := goodIn_r _ [58, 59, 2, 3, 39, 60, 61, 97, 98, 99] (by decide +kernel) (by decide +kernel)
set_option maxRecDepth 20000 in
theorem gX6_init_X2_init_n45 : GoodIn wsX6_init (wsX2_init) := ggX6_init_X2_init
set_option maxRecDepth 20000 in
theorem ggX6_init_X3_init : GoodIn wsX6_init wsX3_init := goodIn_r _ [64, 65, 2, 3, 66, 67, 9, 10, 36, 37, 38, 39, 40, 41, 42, 43, 44, 45, 100, 101, 80, 81, 82, 83, 84, 85, 86, 87, 88, 89, 90, 91] (by decide +kernel) (by decide +kernel)
set_option maxRecDepth 20000 in
theorem gX6_init_X3_init : GoodIn wsX6_init (wsX3_init) := ggX6_init_X3_init
theorem dX6_init_0 : decode cX6_init 0 = .ok (.aload_n 0, 1) := by decide +kernel
theorem dX6_init_1 : decode cX6_init 1 = .ok (.invokespecial 1, 3) := by decide +kernel
theorem dX6_init_4 : decode cX6_init 4 = .ok (.aload_n 0, 1) := by decide +kernel
theorem dX6_init_5 : decode cX6_init 5 = .ok (.new 7, 3) := by decide +kernel
theorem dX6_init_8 : decode cX6_init 8 = .ok (.dup, 1) := by decide +kernel
theorem dX6_init_9 : decode cX6_init 9 = .ok (.invokespecial 9, 3) := by decide +kernel
theorem dX6_init_12 : decode cX6_init 12 = .ok (.putfield 10, 3) := by decide +kernel
theorem dX6_init_15 : decode cX6_init 15 = .ok (.aload_n 0, 1) := by decide +kernel
theorem dX6_init_16 : decode cX6_init 16 = .ok (.new 16, 3) := by decide +kernel
theorem dX6_init_19 : decode cX6_init 19 = .ok (.dup, 1) := by decide +kernel
theorem dX6_init_20 : decode cX6_init 20 = .ok (.invokespecial 18, 3) := by decide +kernel
theorem dX6_init_23 : decode cX6_init 23 = .ok (.putfield 19, 3) := by decide +kernel
theorem dX6_init_26 : decode cX6_init 26 = .ok (.aload_n 0, 1) := by decide +kernel
theorem dX6_init_27 : decode cX6_init 27 = .ok (.new 16, 3) := by decide +kernel
theorem dX6_init_30 : decode cX6_init 30 = .ok (.dup, 1) := by decide +kernel
theorem dX6_init_31 : decode cX6_init 31 = .ok (.invokespecial 18, 3) := by decide +kernel
theorem dX6_init_34 : decode cX6_init 34 = .ok (.putfield 23, 3) := by decide +kernel
theorem dX6_init_37 : decode cX6_init 37 = .ok (.aload_n 0, 1) := by decide +kernel
theorem dX6_init_38 : decode cX6_init 38 = .ok (.new 26, 3) := by decide +kernel
theorem dX6_init_41 : decode cX6_init 41 = .ok (.dup, 1) := by decide +kernel
theorem dX6_init_42 : decode cX6_init 42 = .ok (.invokespecial 28, 3) := by decide +kernel
theorem dX6_init_45 : decode cX6_init 45 = .ok (.putfield 29, 3) := by decide +kernel
theorem dX6_init_48 : decode cX6_init 48 = .ok (.aload_n 0, 1) := by decide +kernel
theorem dX6_init_49 : decode cX6_init 49 = .ok (.new 26, 3) := by decide +kernel
theorem dX6_init_52 : decode cX6_init 52 = .ok (.dup, 1) := by decide +kernel
theorem dX6_init_53 : decode cX6_init 53 = .ok (.invokespecial 28, 3) := by decide +kernel
theorem dX6_init_56 : decode cX6_init 56 = .ok (.putfield 33, 3) := by decide +kernel
theorem dX6_init_59 : decode cX6_init 59 = .ok (.aload_n 0, 1) := by decide +kernel
theorem dX6_init_60 : decode cX6_init 60 = .ok (.new 36, 3) := by decide +kernel
theorem dX6_init_63 : decode cX6_init 63 = .ok (.dup, 1) := by decide +kernel
theorem dX6_init_64 : decode cX6_init 64 = .ok (.invokespecial 38, 3) := by decide +kernel
theorem dX6_init_67 : decode cX6_init 67 = .ok (.putfield 39, 3) := by decide +kernel
theorem dX6_init_70 : decode cX6_init 70 = .ok (.aload_n 0, 1) := by decide +kernel
theorem dX6_init_71 : decode cX6_init 71 = .ok (.new 43, 3) := by decide +kernel
theorem dX6_init_74 : decode cX6_init 74 = .ok (.dup, 1) := by decide +kernel
theorem dX6_init_75 : decode cX6_init 75 = .ok (.invokespecial 45, 3) := by decide +kernel
theorem dX6_init_78 : decode cX6_init 78 = .ok (.putfield 46, 3) := by decide +kernel
theorem dX6_init_81 : decode cX6_init 81 = .ok (.aload_n 0, 1) := by decide +kernel
theorem dX6_init_82 : decode cX6_init 82 = .ok (.new 50, 3) := by decide +kernel
theorem dX6_init_85 : decode cX6_init 85 = .ok (.dup, 1) := by decide +kernel
theorem dX6_init_86 : decode cX6_init 86 = .ok (.invokespecial 52, 3) := by decide +kernel
theorem dX6_init_89 : decode cX6_init 89 = .ok (.putfield 53, 3) := by decide +kernel
theorem dX6_init_92 : decode cX6_init 92 = .ok (.return_, 1) := by decide +kernel
set_option maxRecDepth 20000 in
theorem ggX6_write_X4_append : GoodIn wsX6_write wsX4_append := goodIn_r _ [6, 7, 8, 17, 18, 19, 20] (by decide +kernel) (by decide +kernel)
set_option maxRecDepth 20000 in
theorem gX6_write_X4_append : GoodIn wsX6_write (wsV RX6 57 RX4 yX4_append wsX4_append) := goodIn_app (goodIn_of _ (by decide +kernel)) ggX6_write_X4_append
theorem dX6_write_0 : decode cX6_write 0 = .ok (.iload_n 1, 1) := by decide +kernel
theorem dX6_write_1 : decode cX6_write 1 = .ok (.iconst 1, 1) := by decide +kernel
theorem dX6_write_2 : decode cX6_write 2 = .ok (.if_icmp .lt 9, 3) := by decide +kernel
theorem dX6_write_5 : decode cX6_write 5 = .ok (.iload_n 1, 1) := by decide +kernel
theorem dX6_write_6 : decode cX6_write 6 = .ok (.bipush 8, 2) := by decide +kernel
theorem dX6_write_8 : decode cX6_write 8 = .ok (.if_icmp .le 6, 3) := by decide +kernel
theorem dX6_write_11 : decode cX6_write 11 = .ok (.bipush (-2), 2) := by decide +kernel
theorem dX6_write_13 : decode cX6_write 13 = .ok (.ireturn, 1) := by decide +kernel
theorem dX6_write_14 : decode cX6_write 14 = .ok (.aload_n 0, 1) := by decide +kernel
theorem dX6_write_15 : decode cX6_write 15 = .ok (.getfield 10, 3) := by decide +kernel
theorem dX6_write_18 : decode cX6_write 18 = .ok (.iload_n 1, 1) := by decide +kernel
theorem dX6_write_19 : decode cX6_write 19 = .ok (.lload_n 2, 1) := by decide +kernel
theorem dX6_write_20 : decode cX6_write 20 = .ok (.invokevirtual 57, 3) := by decide +kernel
theorem dX6_write_23 : decode cX6_write 23 = .ok (.ireturn, 1) := by decide +kernel
set_option maxRecDepth 20000 in
theorem ggX6_wipe_X4_clear : GoodIn wsX6_wipe wsX4_clear := goodIn_r _ [6, 7, 16, 17, 18, 19] (by decide +kernel) (by decide +kernel)
set_option maxRecDepth 20000 in
theorem gX6_wipe_X4_clear : GoodIn wsX6_wipe (wsV RX6 61 RX4 yX4_clear wsX4_clear) := goodIn_app (goodIn_of _ (by decide +kernel)) ggX6_wipe_X4_clear
theorem dX6_wipe_0 : decode cX6_wipe 0 = .ok (.aload_n 0, 1) := by decide +kernel
theorem dX6_wipe_1 : decode cX6_wipe 1 = .ok (.getfield 10, 3) := by decide +kernel
theorem dX6_wipe_4 : decode cX6_wipe 4 = .ok (.invokevirtual 61, 3) := by decide +kernel
theorem dX6_wipe_7 : decode cX6_wipe 7 = .ok (.ireturn, 1) := by decide +kernel
set_option maxRecDepth 20000 in
theorem ggX6_fault_X4_read : GoodIn wsX6_fault wsX4_read := goodIn_r _ [8, 9, 10, 11, 12, 13, 14, 15, 16, 17, 18, 19, 20, 21, 22, 23, 24, 25, 26, 27, 28, 29, 30, 7, 31, 32, 33, 34, 35, 36, 37, 38, 39, 40, 41, 42, 43, 44, 45, 46, 47, 48, 49, 50, 51, 52, 53, 54, 55, 56, 57, 58, 59, 60, 61, 62, 63, 64, 65, 66, 67, 68, 69, 70, 71, 80, 81, 82, 83, 84, 85, 86, 87, 88, 89, 90, 91, 92, 93, 94, 95, 96, 97, 98] (by decide +kernel) (by decide +kernel)
set_option maxRecDepth 20000 in
theorem gX6_fault_X4_read : GoodIn wsX6_fault (wsV RX6 65 RX4 yX4_read wsX4_read) := goodIn_app (goodIn_of _ (by decide +kernel)) ggX6_fault_X4_read
theorem dX6_fault_0 : decode cX6_fault 0 = .ok (.aload_n 0, 1) := by decide +kernel
theorem dX6_fault_1 : decode cX6_fault 1 = .ok (.getfield 10, 3) := by decide +kernel
theorem dX6_fault_4 : decode cX6_fault 4 = .ok (.aload_n 0, 1) := by decide +kernel
theorem dX6_fault_5 : decode cX6_fault 5 = .ok (.getfield 23, 3) := by decide +kernel
theorem dX6_fault_8 : decode cX6_fault 8 = .ok (.aload_n 0, 1) := by decide +kernel
theorem dX6_fault_9 : decode cX6_fault 9 = .ok (.getfield 33, 3) := by decide +kernel
theorem dX6_fault_12 : decode cX6_fault 12 = .ok (.invokevirtual 65, 3) := by decide +kernel
theorem dX6_fault_15 : decode cX6_fault 15 = .ok (.ireturn, 1) := by decide +kernel
set_option maxRecDepth 20000 in
theorem ggX6_room_X4_read : GoodIn wsX6_room wsX4_read := goodIn_r _ [12, 13, 14, 15, 16, 17, 18, 19, 20, 21, 22, 23, 24, 25, 26, 27, 28, 29, 30, 31, 32, 33, 34, 11, 35, 36, 37, 38, 39, 40, 41, 42, 43, 44, 45, 46, 47, 48, 49, 50, 51, 52, 53, 54, 55, 56, 57, 58, 59, 60, 61, 62, 63, 64, 65, 66, 67, 68, 69, 70, 71, 72, 73, 74, 75, 120, 121, 122, 123, 108, 109, 110, 111, 112, 113, 114, 115, 116, 117, 118, 119, 124, 125, 126] (by decide +kernel) (by decide +kernel)
set_option maxRecDepth 20000 in
theorem gX6_room_X4_read : GoodIn wsX6_room (wsV RX6 65 RX4 yX4_read wsX4_read) := goodIn_app (goodIn_of _ (by decide +kernel)) ggX6_room_X4_read
set_option maxRecDepth 20000 in
theorem ggX6_room_X1_copyFrom : GoodIn wsX6_room wsX1_copyFrom := goodIn_r _ [79, 22, 24, 80, 81, 82, 19, 83, 21, 62, 57, 63, 64, 65, 23, 25, 108, 109, 110, 111, 112, 113, 114, 115, 116, 117, 118, 119] (by decide +kernel) (by decide +kernel)
set_option maxRecDepth 20000 in
theorem gX6_room_X1_copyFrom : GoodIn wsX6_room (wsV RX6 69 RX1 yX1_copyFrom wsX1_copyFrom) := goodIn_app (goodIn_of _ (by decide +kernel)) ggX6_room_X1_copyFrom
set_option maxRecDepth 20000 in
theorem ggX6_room_X5_copyFrom : GoodIn wsX6_room wsX5_copyFrom := goodIn_r _ [87, 31, 74, 75, 124, 125, 126] (by decide +kernel) (by decide +kernel)
set_option maxRecDepth 20000 in
theorem gX6_room_X5_copyFrom : GoodIn wsX6_room (wsV RX6 73 RX5 yX5_copyFrom wsX5_copyFrom) := goodIn_app (goodIn_of _ (by decide +kernel)) ggX6_room_X5_copyFrom
set_option maxRecDepth 20000 in
theorem ggX6_room_X0_clear : GoodIn wsX6_room wsX0_clear := goodIn_r _ [92, 93, 127, 128] (by decide +kernel) (by decide +kernel)
set_option maxRecDepth 20000 in
theorem gX6_room_X0_clear : GoodIn wsX6_room (wsV RX6 76 RX0 yX0_clear wsX0_clear) := goodIn_app (goodIn_of _ (by decide +kernel)) ggX6_room_X0_clear
set_option maxRecDepth 20000 in
theorem ggX6_room_X3_clear : GoodIn wsX6_room wsX3_clear := goodIn_r _ [98, 99, 129, 130] (by decide +kernel) (by decide +kernel)
set_option maxRecDepth 20000 in
theorem gX6_room_X3_clear : GoodIn wsX6_room (wsV RX6 78 RX3 yX3_clear wsX3_clear) := goodIn_app (goodIn_of _ (by decide +kernel)) ggX6_room_X3_clear
theorem dX6_room_0 : decode cX6_room 0 = .ok (.aload_n 0, 1) := by decide +kernel
theorem dX6_room_1 : decode cX6_room 1 = .ok (.getfield 10, 3) := by decide +kernel
theorem dX6_room_4 : decode cX6_room 4 = .ok (.aload_n 0, 1) := by decide +kernel
theorem dX6_room_5 : decode cX6_room 5 = .ok (.getfield 23, 3) := by decide +kernel
theorem dX6_room_8 : decode cX6_room 8 = .ok (.aload_n 0, 1) := by decide +kernel
theorem dX6_room_9 : decode cX6_room 9 = .ok (.getfield 33, 3) := by decide +kernel
theorem dX6_room_12 : decode cX6_room 12 = .ok (.invokevirtual 65, 3) := by decide +kernel
theorem dX6_room_15 : decode cX6_room 15 = .ok (.bipush (-9), 2) := by decide +kernel
theorem dX6_room_17 : decode cX6_room 17 = .ok (.if_icmp .eq 6, 3) := by decide +kernel
theorem dX6_room_20 : decode cX6_room 20 = .ok (.bipush (-3), 2) := by decide +kernel
theorem dX6_room_22 : decode cX6_room 22 = .ok (.ireturn, 1) := by decide +kernel
theorem dX6_room_23 : decode cX6_room 23 = .ok (.aload_n 0, 1) := by decide +kernel
theorem dX6_room_24 : decode cX6_room 24 = .ok (.getfield 19, 3) := by decide +kernel
theorem dX6_room_27 : decode cX6_room 27 = .ok (.aload_n 0, 1) := by decide +kernel
theorem dX6_room_28 : decode cX6_room 28 = .ok (.getfield 23, 3) := by decide +kernel
theorem dX6_room_31 : decode cX6_room 31 = .ok (.invokevirtual 69, 3) := by decide +kernel
theorem dX6_room_34 : decode cX6_room 34 = .ok (.aload_n 0, 1) := by decide +kernel
theorem dX6_room_35 : decode cX6_room 35 = .ok (.getfield 29, 3) := by decide +kernel
theorem dX6_room_38 : decode cX6_room 38 = .ok (.aload_n 0, 1) := by decide +kernel
theorem dX6_room_39 : decode cX6_room 39 = .ok (.getfield 33, 3) := by decide +kernel
theorem dX6_room_42 : decode cX6_room 42 = .ok (.invokevirtual 73, 3) := by decide +kernel
theorem dX6_room_45 : decode cX6_room 45 = .ok (.aload_n 0, 1) := by decide +kernel
theorem dX6_room_46 : decode cX6_room 46 = .ok (.getfield 39, 3) := by decide +kernel
theorem dX6_room_49 : decode cX6_room 49 = .ok (.invokevirtual 76, 3) := by decide +kernel
theorem dX6_room_52 : decode cX6_room 52 = .ok (.aload_n 0, 1) := by decide +kernel
theorem dX6_room_53 : decode cX6_room 53 = .ok (.getfield 53, 3) := by decide +kernel
theorem dX6_room_56 : decode cX6_room 56 = .ok (.invokevirtual 78, 3) := by decide +kernel
theorem dX6_room_59 : decode cX6_room 59 = .ok (.aload_n 0, 1) := by decide +kernel
theorem dX6_room_60 : decode cX6_room 60 = .ok (.getfield 19, 3) := by decide +kernel
theorem dX6_room_63 : decode cX6_room 63 = .ok (.getfield 79, 3) := by decide +kernel
theorem dX6_room_66 : decode cX6_room 66 = .ok (.ireturn, 1) := by decide +kernel
set_option maxRecDepth 20000 in
theorem ggX6_about_X1_peopleAll : GoodIn wsX6_about wsX1_peopleAll := goodIn_r _ [10, 11, 12, 85, 86, 87, 88, 89, 90, 91, 92, 93, 94, 95, 96] (by decide +kernel) (by decide +kernel)
set_option maxRecDepth 20000 in
theorem gX6_about_X1_peopleAll : GoodIn wsX6_about (wsV RX6 83 RX1 yX1_peopleAll wsX1_peopleAll) := goodIn_app (goodIn_of _ (by decide +kernel)) ggX6_about_X1_peopleAll
set_option maxRecDepth 20000 in
theorem ggX6_about_X1_echoing : GoodIn wsX6_about wsX1_echoing := goodIn_r _ [16, 17, 18, 19, 20, 21, 22, 23, 24, 9, 25, 11, 26, 27, 28, 29, 12, 30, 31, 32, 33, 34, 35, 36, 85, 86, 87, 88, 89, 90, 91, 92, 93, 94, 95, 96] (by decide +kernel) (by decide +kernel)
set_option maxRecDepth 20000 in
theorem gX6_about_X1_echoing : GoodIn wsX6_about (wsV RX6 92 RX1 yX1_echoing wsX1_echoing) := goodIn_app (goodIn_of _ (by decide +kernel)) ggX6_about_X1_echoing
set_option maxRecDepth 20000 in
theorem ggX6_about_X1_loudAll : GoodIn wsX6_about wsX1_loudAll := goodIn_r _ [25, 11, 26, 27, 28, 9, 29, 12, 30, 31, 85, 86, 87, 88, 89, 90, 91, 92, 93, 94, 95, 96] (by decide +kernel) (by decide +kernel)
set_option maxRecDepth 20000 in
theorem gX6_about_X1_loudAll : GoodIn wsX6_about (wsV RX6 95 RX1 yX1_loudAll wsX1_loudAll) := goodIn_app (goodIn_of _ (by decide +kernel)) ggX6_about_X1_loudAll
set_option maxRecDepth 20000 in
theorem ggX6_about_X1_hearing : GoodIn wsX6_about wsX1_hearing := goodIn_r _ [41, 11, 42, 43, 44, 9, 45, 46, 47, 48, 49, 50, 51, 12, 26, 27, 28, 29, 30, 31, 52, 53, 54, 55, 18, 19, 20, 21, 56, 57, 58, 59, 60, 14, 15, 16, 17, 22, 23, 24, 25, 32, 33, 34, 35, 36, 61, 62, 63, 64, 65, 66, 67, 68, 69, 70, 71, 72, 73, 74, 75, 76, 85, 86, 87, 88, 89, 90, 91, 92, 93, 94, 95, 96] (by decide +kernel) (by decide +kernel)
set_option maxRecDepth 20000 in
theorem gX6_about_X1_hearing : GoodIn wsX6_about (wsV RX6 98 RX1 yX1_hearing wsX1_hearing) := goodIn_app (goodIn_of _ (by decide +kernel)) ggX6_about_X1_hearing
theorem dX6_about_0 : decode cX6_about 0 = .ok (.iload_n 1, 1) := by decide +kernel
theorem dX6_about_1 : decode cX6_about 1 = .ok (.tableswitch 147 0 10 #[59, 67, 75, 83, 91, 99, 107, 115, 123, 131, 139], 59) := by decide +kernel
theorem dX6_about_60 : decode cX6_about 60 = .ok (.aload_n 0, 1) := by decide +kernel
theorem dX6_about_61 : decode cX6_about 61 = .ok (.getfield 19, 3) := by decide +kernel
theorem dX6_about_64 : decode cX6_about 64 = .ok (.getfield 79, 3) := by decide +kernel
theorem dX6_about_67 : decode cX6_about 67 = .ok (.ireturn, 1) := by decide +kernel
theorem dX6_about_68 : decode cX6_about 68 = .ok (.aload_n 0, 1) := by decide +kernel
theorem dX6_about_69 : decode cX6_about 69 = .ok (.getfield 19, 3) := by decide +kernel
theorem dX6_about_72 : decode cX6_about 72 = .ok (.invokevirtual 83, 3) := by decide +kernel
theorem dX6_about_75 : decode cX6_about 75 = .ok (.ireturn, 1) := by decide +kernel
theorem dX6_about_76 : decode cX6_about 76 = .ok (.aload_n 0, 1) := by decide +kernel
theorem dX6_about_77 : decode cX6_about 77 = .ok (.getfield 19, 3) := by decide +kernel
theorem dX6_about_80 : decode cX6_about 80 = .ok (.getfield 86, 3) := by decide +kernel
theorem dX6_about_83 : decode cX6_about 83 = .ok (.ireturn, 1) := by decide +kernel
theorem dX6_about_84 : decode cX6_about 84 = .ok (.aload_n 0, 1) := by decide +kernel
theorem dX6_about_85 : decode cX6_about 85 = .ok (.getfield 19, 3) := by decide +kernel
theorem dX6_about_88 : decode cX6_about 88 = .ok (.getfield 89, 3) := by decide +kernel
theorem dX6_about_91 : decode cX6_about 91 = .ok (.ireturn, 1) := by decide +kernel
theorem dX6_about_92 : decode cX6_about 92 = .ok (.aload_n 0, 1) := by decide +kernel
theorem dX6_about_93 : decode cX6_about 93 = .ok (.getfield 19, 3) := by decide +kernel
theorem dX6_about_96 : decode cX6_about 96 = .ok (.invokevirtual 92, 3) := by decide +kernel
theorem dX6_about_99 : decode cX6_about 99 = .ok (.ireturn, 1) := by decide +kernel
theorem dX6_about_100 : decode cX6_about 100 = .ok (.aload_n 0, 1) := by decide +kernel
theorem dX6_about_101 : decode cX6_about 101 = .ok (.getfield 19, 3) := by decide +kernel
theorem dX6_about_104 : decode cX6_about 104 = .ok (.invokevirtual 95, 3) := by decide +kernel
theorem dX6_about_107 : decode cX6_about 107 = .ok (.ireturn, 1) := by decide +kernel
theorem dX6_about_108 : decode cX6_about 108 = .ok (.aload_n 0, 1) := by decide +kernel
theorem dX6_about_109 : decode cX6_about 109 = .ok (.getfield 19, 3) := by decide +kernel
theorem dX6_about_112 : decode cX6_about 112 = .ok (.invokevirtual 98, 3) := by decide +kernel
theorem dX6_about_115 : decode cX6_about 115 = .ok (.ireturn, 1) := by decide +kernel
theorem dX6_about_116 : decode cX6_about 116 = .ok (.aload_n 0, 1) := by decide +kernel
theorem dX6_about_117 : decode cX6_about 117 = .ok (.getfield 29, 3) := by decide +kernel
theorem dX6_about_120 : decode cX6_about 120 = .ok (.getfield 101, 3) := by decide +kernel
theorem dX6_about_123 : decode cX6_about 123 = .ok (.ireturn, 1) := by decide +kernel
theorem dX6_about_124 : decode cX6_about 124 = .ok (.aload_n 0, 1) := by decide +kernel
theorem dX6_about_125 : decode cX6_about 125 = .ok (.getfield 39, 3) := by decide +kernel
theorem dX6_about_128 : decode cX6_about 128 = .ok (.getfield 104, 3) := by decide +kernel
theorem dX6_about_131 : decode cX6_about 131 = .ok (.ireturn, 1) := by decide +kernel
theorem dX6_about_132 : decode cX6_about 132 = .ok (.aload_n 0, 1) := by decide +kernel
theorem dX6_about_133 : decode cX6_about 133 = .ok (.getfield 46, 3) := by decide +kernel
theorem dX6_about_136 : decode cX6_about 136 = .ok (.getfield 105, 3) := by decide +kernel
theorem dX6_about_139 : decode cX6_about 139 = .ok (.ireturn, 1) := by decide +kernel
theorem dX6_about_140 : decode cX6_about 140 = .ok (.aload_n 0, 1) := by decide +kernel
theorem dX6_about_141 : decode cX6_about 141 = .ok (.getfield 10, 3) := by decide +kernel
theorem dX6_about_144 : decode cX6_about 144 = .ok (.getfield 106, 3) := by decide +kernel
theorem dX6_about_147 : decode cX6_about 147 = .ok (.ireturn, 1) := by decide +kernel
theorem dX6_about_148 : decode cX6_about 148 = .ok (.bipush (-2), 2) := by decide +kernel
theorem dX6_about_150 : decode cX6_about 150 = .ok (.ireturn, 1) := by decide +kernel
set_option maxRecDepth 20000 in
theorem ggX6_ring_X1_has : GoodIn wsX6_ring wsX1_has := goodIn_r _ [6, 7, 78, 79, 80, 81, 82, 83, 84, 85, 86, 87, 88, 89] (by decide +kernel) (by decide +kernel)
set_option maxRecDepth 20000 in
theorem gX6_ring_X1_has : GoodIn wsX6_ring (wsV RX6 109 RX1 yX1_has wsX1_has) := goodIn_app (goodIn_of _ (by decide +kernel)) ggX6_ring_X1_has
set_option maxRecDepth 20000 in
theorem ggX6_ring_X1_loudOf : GoodIn wsX6_ring wsX1_loudOf := goodIn_r _ [11, 12, 13, 14, 78, 79, 80, 81, 82, 83, 84, 85, 86, 87, 88, 89] (by decide +kernel) (by decide +kernel)
set_option maxRecDepth 20000 in
theorem gX6_ring_X1_loudOf : GoodIn wsX6_ring (wsV RX6 129 RX1 yX1_loudOf wsX1_loudOf) := goodIn_app (goodIn_of _ (by decide +kernel)) ggX6_ring_X1_loudOf
set_option maxRecDepth 20000 in
theorem ggX6_ring_X1_soundBy : GoodIn wsX6_ring wsX1_soundBy := goodIn_r _ [18, 19, 12, 20, 21, 22, 23, 78, 79, 80, 81, 82, 83, 84, 85, 86, 87, 88, 89] (by decide +kernel) (by decide +kernel)
set_option maxRecDepth 20000 in
theorem gX6_ring_X1_soundBy : GoodIn wsX6_ring (wsV RX6 133 RX1 yX1_soundBy wsX1_soundBy) := goodIn_app (goodIn_of _ (by decide +kernel)) ggX6_ring_X1_soundBy
set_option maxRecDepth 20000 in
theorem ggX6_ring_X1_noiseAt : GoodIn wsX6_ring wsX1_noiseAt := goodIn_r _ [27, 28, 29, 30, 5, 31, 32, 20, 21, 22, 23, 33, 34, 35, 36, 7, 37, 9, 10, 11, 12, 13, 14, 38, 39, 40, 41, 42, 43, 44, 45, 46, 47, 48, 49, 50, 51, 52, 53, 54, 78, 79, 80, 81, 82, 83, 84, 85, 86, 87, 88, 89] (by decide +kernel) (by decide +kernel)
set_option maxRecDepth 20000 in
theorem gX6_ring_X1_noiseAt : GoodIn wsX6_ring (wsV RX6 137 RX1 yX1_noiseAt wsX1_noiseAt) := goodIn_app (goodIn_of _ (by decide +kernel)) ggX6_ring_X1_noiseAt
set_option maxRecDepth 20000 in
theorem ggX6_ring_X1_hears : GoodIn wsX6_ring wsX1_hears := goodIn_r _ [58, 51, 59, 60, 61, 5, 62, 19, 12, 37, 9, 10, 11, 13, 14, 63, 16, 17, 18, 20, 21, 22, 23, 64, 25, 26, 27, 28, 29, 30, 31, 32, 33, 34, 35, 36, 7, 38, 39, 40, 41, 42, 43, 44, 45, 46, 47, 48, 49, 50, 52, 53, 54, 65, 66, 67, 68, 69, 78, 79, 80, 81, 82, 83, 84, 85, 86, 87, 88, 89] (by decide +kernel) (by decide +kernel)
set_option maxRecDepth 20000 in
theorem gX6_ring_X1_hears : GoodIn wsX6_ring (wsV RX6 140 RX1 yX1_hears wsX1_hears) := goodIn_app (goodIn_of _ (by decide +kernel)) ggX6_ring_X1_hears
theorem dX6_ring_0 : decode cX6_ring 0 = .ok (.aload_n 0, 1) := by decide +kernel
theorem dX6_ring_1 : decode cX6_ring 1 = .ok (.getfield 19, 3) := by decide +kernel
theorem dX6_ring_4 : decode cX6_ring 4 = .ok (.iload_n 1, 1) := by decide +kernel
theorem dX6_ring_5 : decode cX6_ring 5 = .ok (.invokevirtual 109, 3) := by decide +kernel
theorem dX6_ring_8 : decode cX6_ring 8 = .ok (.ifCond .ne 5, 3) := by decide +kernel
theorem dX6_ring_11 : decode cX6_ring 11 = .ok (.iconst (-1), 1) := by decide +kernel
theorem dX6_ring_12 : decode cX6_ring 12 = .ok (.ireturn, 1) := by decide +kernel
theorem dX6_ring_13 : decode cX6_ring 13 = .ok (.iload_n 2, 1) := by decide +kernel
theorem dX6_ring_14 : decode cX6_ring 14 = .ok (.tableswitch 160 0 8 #[50, 60, 70, 80, 90, 100, 109, 126, 143], 50) := by decide +kernel
theorem dX6_ring_64 : decode cX6_ring 64 = .ok (.aload_n 0, 1) := by decide +kernel
theorem dX6_ring_65 : decode cX6_ring 65 = .ok (.getfield 19, 3) := by decide +kernel
theorem dX6_ring_68 : decode cX6_ring 68 = .ok (.getfield 113, 3) := by decide +kernel
theorem dX6_ring_71 : decode cX6_ring 71 = .ok (.iload_n 1, 1) := by decide +kernel
theorem dX6_ring_72 : decode cX6_ring 72 = .ok (.iaload, 1) := by decide +kernel
theorem dX6_ring_73 : decode cX6_ring 73 = .ok (.ireturn, 1) := by decide +kernel
theorem dX6_ring_74 : decode cX6_ring 74 = .ok (.aload_n 0, 1) := by decide +kernel
theorem dX6_ring_75 : decode cX6_ring 75 = .ok (.getfield 19, 3) := by decide +kernel
theorem dX6_ring_78 : decode cX6_ring 78 = .ok (.getfield 117, 3) := by decide +kernel
theorem dX6_ring_81 : decode cX6_ring 81 = .ok (.iload_n 1, 1) := by decide +kernel
theorem dX6_ring_82 : decode cX6_ring 82 = .ok (.iaload, 1) := by decide +kernel
theorem dX6_ring_83 : decode cX6_ring 83 = .ok (.ireturn, 1) := by decide +kernel
theorem dX6_ring_84 : decode cX6_ring 84 = .ok (.aload_n 0, 1) := by decide +kernel
theorem dX6_ring_85 : decode cX6_ring 85 = .ok (.getfield 19, 3) := by decide +kernel
theorem dX6_ring_88 : decode cX6_ring 88 = .ok (.getfield 120, 3) := by decide +kernel
theorem dX6_ring_91 : decode cX6_ring 91 = .ok (.iload_n 1, 1) := by decide +kernel
theorem dX6_ring_92 : decode cX6_ring 92 = .ok (.iaload, 1) := by decide +kernel
theorem dX6_ring_93 : decode cX6_ring 93 = .ok (.ireturn, 1) := by decide +kernel
theorem dX6_ring_94 : decode cX6_ring 94 = .ok (.aload_n 0, 1) := by decide +kernel
theorem dX6_ring_95 : decode cX6_ring 95 = .ok (.getfield 19, 3) := by decide +kernel
theorem dX6_ring_98 : decode cX6_ring 98 = .ok (.getfield 123, 3) := by decide +kernel
theorem dX6_ring_101 : decode cX6_ring 101 = .ok (.iload_n 1, 1) := by decide +kernel
theorem dX6_ring_102 : decode cX6_ring 102 = .ok (.iaload, 1) := by decide +kernel
theorem dX6_ring_103 : decode cX6_ring 103 = .ok (.ireturn, 1) := by decide +kernel
theorem dX6_ring_104 : decode cX6_ring 104 = .ok (.aload_n 0, 1) := by decide +kernel
theorem dX6_ring_105 : decode cX6_ring 105 = .ok (.getfield 19, 3) := by decide +kernel
theorem dX6_ring_108 : decode cX6_ring 108 = .ok (.getfield 126, 3) := by decide +kernel
theorem dX6_ring_111 : decode cX6_ring 111 = .ok (.iload_n 1, 1) := by decide +kernel
theorem dX6_ring_112 : decode cX6_ring 112 = .ok (.iaload, 1) := by decide +kernel
theorem dX6_ring_113 : decode cX6_ring 113 = .ok (.ireturn, 1) := by decide +kernel
theorem dX6_ring_114 : decode cX6_ring 114 = .ok (.aload_n 0, 1) := by decide +kernel
theorem dX6_ring_115 : decode cX6_ring 115 = .ok (.getfield 19, 3) := by decide +kernel
theorem dX6_ring_118 : decode cX6_ring 118 = .ok (.iload_n 1, 1) := by decide +kernel
theorem dX6_ring_119 : decode cX6_ring 119 = .ok (.invokevirtual 129, 3) := by decide +kernel
theorem dX6_ring_122 : decode cX6_ring 122 = .ok (.ireturn, 1) := by decide +kernel
theorem dX6_ring_123 : decode cX6_ring 123 = .ok (.aload_n 0, 1) := by decide +kernel
theorem dX6_ring_124 : decode cX6_ring 124 = .ok (.getfield 19, 3) := by decide +kernel
theorem dX6_ring_127 : decode cX6_ring 127 = .ok (.iload_n 1, 1) := by decide +kernel
theorem dX6_ring_128 : decode cX6_ring 128 = .ok (.aload_n 0, 1) := by decide +kernel
theorem dX6_ring_129 : decode cX6_ring 129 = .ok (.getfield 19, 3) := by decide +kernel
theorem dX6_ring_132 : decode cX6_ring 132 = .ok (.iload_n 1, 1) := by decide +kernel
theorem dX6_ring_133 : decode cX6_ring 133 = .ok (.invokevirtual 129, 3) := by decide +kernel
theorem dX6_ring_136 : decode cX6_ring 136 = .ok (.invokevirtual 133, 3) := by decide +kernel
theorem dX6_ring_139 : decode cX6_ring 139 = .ok (.ireturn, 1) := by decide +kernel
theorem dX6_ring_140 : decode cX6_ring 140 = .ok (.aload_n 0, 1) := by decide +kernel
theorem dX6_ring_141 : decode cX6_ring 141 = .ok (.getfield 19, 3) := by decide +kernel
theorem dX6_ring_144 : decode cX6_ring 144 = .ok (.aload_n 0, 1) := by decide +kernel
theorem dX6_ring_145 : decode cX6_ring 145 = .ok (.getfield 19, 3) := by decide +kernel
theorem dX6_ring_148 : decode cX6_ring 148 = .ok (.getfield 117, 3) := by decide +kernel
theorem dX6_ring_151 : decode cX6_ring 151 = .ok (.iload_n 1, 1) := by decide +kernel
theorem dX6_ring_152 : decode cX6_ring 152 = .ok (.iaload, 1) := by decide +kernel
theorem dX6_ring_153 : decode cX6_ring 153 = .ok (.invokevirtual 137, 3) := by decide +kernel
theorem dX6_ring_156 : decode cX6_ring 156 = .ok (.ireturn, 1) := by decide +kernel
theorem dX6_ring_157 : decode cX6_ring 157 = .ok (.aload_n 0, 1) := by decide +kernel
theorem dX6_ring_158 : decode cX6_ring 158 = .ok (.getfield 19, 3) := by decide +kernel
theorem dX6_ring_161 : decode cX6_ring 161 = .ok (.iload_n 1, 1) := by decide +kernel
theorem dX6_ring_162 : decode cX6_ring 162 = .ok (.invokevirtual 140, 3) := by decide +kernel
theorem dX6_ring_165 : decode cX6_ring 165 = .ok (.ifCond .eq 7, 3) := by decide +kernel
theorem dX6_ring_168 : decode cX6_ring 168 = .ok (.iconst 1, 1) := by decide +kernel
theorem dX6_ring_169 : decode cX6_ring 169 = .ok (.goto 4, 3) := by decide +kernel
theorem dX6_ring_172 : decode cX6_ring 172 = .ok (.iconst 0, 1) := by decide +kernel
theorem dX6_ring_173 : decode cX6_ring 173 = .ok (.ireturn, 1) := by decide +kernel
theorem dX6_ring_174 : decode cX6_ring 174 = .ok (.bipush (-2), 2) := by decide +kernel
theorem dX6_ring_176 : decode cX6_ring 176 = .ok (.ireturn, 1) := by decide +kernel
theorem dX6_stuff_0 : decode cX6_stuff 0 = .ok (.iload_n 1, 1) := by decide +kernel
theorem dX6_stuff_1 : decode cX6_stuff 1 = .ok (.ifCond .lt 14, 3) := by decide +kernel
theorem dX6_stuff_4 : decode cX6_stuff 4 = .ok (.iload_n 1, 1) := by decide +kernel
theorem dX6_stuff_5 : decode cX6_stuff 5 = .ok (.aload_n 0, 1) := by decide +kernel
theorem dX6_stuff_6 : decode cX6_stuff 6 = .ok (.getfield 29, 3) := by decide +kernel
theorem dX6_stuff_9 : decode cX6_stuff 9 = .ok (.getfield 101, 3) := by decide +kernel
theorem dX6_stuff_12 : decode cX6_stuff 12 = .ok (.if_icmp .lt 5, 3) := by decide +kernel
theorem dX6_stuff_15 : decode cX6_stuff 15 = .ok (.iconst (-1), 1) := by decide +kernel
theorem dX6_stuff_16 : decode cX6_stuff 16 = .ok (.ireturn, 1) := by decide +kernel
theorem dX6_stuff_17 : decode cX6_stuff 17 = .ok (.iload_n 2, 1) := by decide +kernel
theorem dX6_stuff_18 : decode cX6_stuff 18 = .ok (.lookupswitch 46 #[(0, 26), (1, 36)], 26) := by decide +kernel
theorem dX6_stuff_44 : decode cX6_stuff 44 = .ok (.aload_n 0, 1) := by decide +kernel
theorem dX6_stuff_45 : decode cX6_stuff 45 = .ok (.getfield 29, 3) := by decide +kernel
theorem dX6_stuff_48 : decode cX6_stuff 48 = .ok (.getfield 143, 3) := by decide +kernel
theorem dX6_stuff_51 : decode cX6_stuff 51 = .ok (.iload_n 1, 1) := by decide +kernel
theorem dX6_stuff_52 : decode cX6_stuff 52 = .ok (.iaload, 1) := by decide +kernel
theorem dX6_stuff_53 : decode cX6_stuff 53 = .ok (.ireturn, 1) := by decide +kernel
theorem dX6_stuff_54 : decode cX6_stuff 54 = .ok (.aload_n 0, 1) := by decide +kernel
theorem dX6_stuff_55 : decode cX6_stuff 55 = .ok (.getfield 29, 3) := by decide +kernel
theorem dX6_stuff_58 : decode cX6_stuff 58 = .ok (.getfield 146, 3) := by decide +kernel
theorem dX6_stuff_61 : decode cX6_stuff 61 = .ok (.iload_n 1, 1) := by decide +kernel
theorem dX6_stuff_62 : decode cX6_stuff 62 = .ok (.iaload, 1) := by decide +kernel
theorem dX6_stuff_63 : decode cX6_stuff 63 = .ok (.ireturn, 1) := by decide +kernel
theorem dX6_stuff_64 : decode cX6_stuff 64 = .ok (.bipush (-2), 2) := by decide +kernel
theorem dX6_stuff_66 : decode cX6_stuff 66 = .ok (.ireturn, 1) := by decide +kernel
set_option maxRecDepth 20000 in
theorem ggX6_noise_X6_isCell : GoodIn wsX6_noise wsX6_isCell := goodIn_r _ [5] (by decide +kernel) (by decide +kernel)
set_option maxRecDepth 20000 in
theorem gX6_noise_X6_isCell : GoodIn wsX6_noise (va_wsS RX6 149 yX6_isCell wsX6_isCell) := goodIn_app (goodIn_of _ (by decide +kernel)) ggX6_noise_X6_isCell
set_option maxRecDepth 20000 in
theorem ggX6_noise_X1_noiseAt : GoodIn wsX6_noise wsX1_noiseAt := goodIn_r _ [10, 11, 12, 13, 9, 14, 15, 16, 17, 18, 19, 20, 21, 22, 23, 24, 25, 26, 27, 28, 29, 30, 31, 32, 33, 34, 35, 36, 37, 38, 39, 40, 41, 42, 43, 44, 45, 46, 4, 47, 56, 57, 58, 59, 60, 61, 62, 63, 64, 65, 66, 67] (by decide +kernel) (by decide +kernel)
set_option maxRecDepth 20000 in
theorem gX6_noise_X1_noiseAt : GoodIn wsX6_noise (wsV RX6 137 RX1 yX1_noiseAt wsX1_noiseAt) := goodIn_app (goodIn_of _ (by decide +kernel)) ggX6_noise_X1_noiseAt
theorem dX6_noise_0 : decode cX6_noise 0 = .ok (.iload_n 1, 1) := by decide +kernel
theorem dX6_noise_1 : decode cX6_noise 1 = .ok (.iload_n 2, 1) := by decide +kernel
theorem dX6_noise_2 : decode cX6_noise 2 = .ok (.invokestatic 149, 3) := by decide +kernel
theorem dX6_noise_5 : decode cX6_noise 5 = .ok (.ifCond .ne 6, 3) := by decide +kernel
theorem dX6_noise_8 : decode cX6_noise 8 = .ok (.bipush (-2), 2) := by decide +kernel
theorem dX6_noise_10 : decode cX6_noise 10 = .ok (.ireturn, 1) := by decide +kernel
theorem dX6_noise_11 : decode cX6_noise 11 = .ok (.aload_n 0, 1) := by decide +kernel
theorem dX6_noise_12 : decode cX6_noise 12 = .ok (.getfield 19, 3) := by decide +kernel
theorem dX6_noise_15 : decode cX6_noise 15 = .ok (.bipush 10, 2) := by decide +kernel
theorem dX6_noise_17 : decode cX6_noise 17 = .ok (.iload_n 2, 1) := by decide +kernel
theorem dX6_noise_18 : decode cX6_noise 18 = .ok (.imul, 1) := by decide +kernel
theorem dX6_noise_19 : decode cX6_noise 19 = .ok (.iload_n 1, 1) := by decide +kernel
theorem dX6_noise_20 : decode cX6_noise 20 = .ok (.iadd, 1) := by decide +kernel
theorem dX6_noise_21 : decode cX6_noise 21 = .ok (.invokevirtual 137, 3) := by decide +kernel
theorem dX6_noise_24 : decode cX6_noise 24 = .ok (.ireturn, 1) := by decide +kernel
set_option maxRecDepth 20000 in
theorem ggX6_from_X1_has : GoodIn wsX6_from wsX1_has := goodIn_r _ [6, 7, 34, 35, 36, 37, 38, 39, 40, 41, 42, 43, 44, 45] (by decide +kernel) (by decide +kernel)
set_option maxRecDepth 20000 in
theorem gX6_from_X1_has : GoodIn wsX6_from (wsV RX6 109 RX1 yX1_has wsX1_has) := goodIn_app (goodIn_of _ (by decide +kernel)) ggX6_from_X1_has
set_option maxRecDepth 20000 in
theorem ggX6_from_X6_isCell : GoodIn wsX6_from wsX6_isCell := goodIn_r _ [11] (by decide +kernel) (by decide +kernel)
set_option maxRecDepth 20000 in
theorem gX6_from_X6_isCell : GoodIn wsX6_from (va_wsS RX6 149 yX6_isCell wsX6_isCell) := goodIn_app (goodIn_of _ (by decide +kernel)) ggX6_from_X6_isCell
set_option maxRecDepth 20000 in
theorem ggX6_from_X1_fromRing : GoodIn wsX6_from wsX1_fromRing := goodIn_r _ [15, 16, 17, 10, 18, 19, 20, 21, 5, 22, 23, 24, 25, 34, 35, 36, 37, 38, 39, 40, 41, 42, 43, 44, 45] (by decide +kernel) (by decide +kernel)
set_option maxRecDepth 20000 in
theorem gX6_from_X1_fromRing : GoodIn wsX6_from (wsV RX6 153 RX1 yX1_fromRing wsX1_fromRing) := goodIn_app (goodIn_of _ (by decide +kernel)) ggX6_from_X1_fromRing
theorem dX6_from_0 : decode cX6_from 0 = .ok (.aload_n 0, 1) := by decide +kernel
theorem dX6_from_1 : decode cX6_from 1 = .ok (.getfield 19, 3) := by decide +kernel
theorem dX6_from_4 : decode cX6_from 4 = .ok (.iload_n 1, 1) := by decide +kernel
theorem dX6_from_5 : decode cX6_from 5 = .ok (.invokevirtual 109, 3) := by decide +kernel
theorem dX6_from_8 : decode cX6_from 8 = .ok (.ifCond .ne 5, 3) := by decide +kernel
theorem dX6_from_11 : decode cX6_from 11 = .ok (.iconst (-1), 1) := by decide +kernel
theorem dX6_from_12 : decode cX6_from 12 = .ok (.ireturn, 1) := by decide +kernel
theorem dX6_from_13 : decode cX6_from 13 = .ok (.iload_n 2, 1) := by decide +kernel
theorem dX6_from_14 : decode cX6_from 14 = .ok (.iload_n 3, 1) := by decide +kernel
theorem dX6_from_15 : decode cX6_from 15 = .ok (.invokestatic 149, 3) := by decide +kernel
theorem dX6_from_18 : decode cX6_from 18 = .ok (.ifCond .ne 6, 3) := by decide +kernel
theorem dX6_from_21 : decode cX6_from 21 = .ok (.bipush (-2), 2) := by decide +kernel
theorem dX6_from_23 : decode cX6_from 23 = .ok (.ireturn, 1) := by decide +kernel
theorem dX6_from_24 : decode cX6_from 24 = .ok (.aload_n 0, 1) := by decide +kernel
theorem dX6_from_25 : decode cX6_from 25 = .ok (.getfield 19, 3) := by decide +kernel
theorem dX6_from_28 : decode cX6_from 28 = .ok (.iload_n 1, 1) := by decide +kernel
theorem dX6_from_29 : decode cX6_from 29 = .ok (.bipush 10, 2) := by decide +kernel
theorem dX6_from_31 : decode cX6_from 31 = .ok (.iload_n 3, 1) := by decide +kernel
theorem dX6_from_32 : decode cX6_from 32 = .ok (.imul, 1) := by decide +kernel
theorem dX6_from_33 : decode cX6_from 33 = .ok (.iload_n 2, 1) := by decide +kernel
theorem dX6_from_34 : decode cX6_from 34 = .ok (.iadd, 1) := by decide +kernel
theorem dX6_from_35 : decode cX6_from 35 = .ok (.invokevirtual 153, 3) := by decide +kernel
theorem dX6_from_38 : decode cX6_from 38 = .ok (.ireturn, 1) := by decide +kernel
set_option maxRecDepth 20000 in
theorem ggX6_voice_X1_has : GoodIn wsX6_voice wsX1_has := goodIn_r _ [6, 7, 16, 17, 18, 19, 20, 21, 22, 23, 24, 25, 26, 27] (by decide +kernel) (by decide +kernel)
set_option maxRecDepth 20000 in
theorem gX6_voice_X1_has : GoodIn wsX6_voice (wsV RX6 109 RX1 yX1_has wsX1_has) := goodIn_app (goodIn_of _ (by decide +kernel)) ggX6_voice_X1_has
theorem dX6_voice_0 : decode cX6_voice 0 = .ok (.aload_n 0, 1) := by decide +kernel
theorem dX6_voice_1 : decode cX6_voice 1 = .ok (.getfield 19, 3) := by decide +kernel
theorem dX6_voice_4 : decode cX6_voice 4 = .ok (.iload_n 1, 1) := by decide +kernel
theorem dX6_voice_5 : decode cX6_voice 5 = .ok (.invokevirtual 109, 3) := by decide +kernel
theorem dX6_voice_8 : decode cX6_voice 8 = .ok (.ifCond .ne 5, 3) := by decide +kernel
theorem dX6_voice_11 : decode cX6_voice 11 = .ok (.iconst (-1), 1) := by decide +kernel
theorem dX6_voice_12 : decode cX6_voice 12 = .ok (.ireturn, 1) := by decide +kernel
theorem dX6_voice_13 : decode cX6_voice 13 = .ok (.iload_n 2, 1) := by decide +kernel
theorem dX6_voice_14 : decode cX6_voice 14 = .ok (.iconst 1, 1) := by decide +kernel
theorem dX6_voice_15 : decode cX6_voice 15 = .ok (.if_icmp .lt 9, 3) := by decide +kernel
theorem dX6_voice_18 : decode cX6_voice 18 = .ok (.iload_n 2, 1) := by decide +kernel
theorem dX6_voice_19 : decode cX6_voice 19 = .ok (.bipush 9, 2) := by decide +kernel
theorem dX6_voice_21 : decode cX6_voice 21 = .ok (.if_icmp .le 6, 3) := by decide +kernel
theorem dX6_voice_24 : decode cX6_voice 24 = .ok (.bipush (-2), 2) := by decide +kernel
theorem dX6_voice_26 : decode cX6_voice 26 = .ok (.ireturn, 1) := by decide +kernel
theorem dX6_voice_27 : decode cX6_voice 27 = .ok (.aload_n 0, 1) := by decide +kernel
theorem dX6_voice_28 : decode cX6_voice 28 = .ok (.getfield 19, 3) := by decide +kernel
theorem dX6_voice_31 : decode cX6_voice 31 = .ok (.getfield 123, 3) := by decide +kernel
theorem dX6_voice_34 : decode cX6_voice 34 = .ok (.iload_n 1, 1) := by decide +kernel
theorem dX6_voice_35 : decode cX6_voice 35 = .ok (.iaload, 1) := by decide +kernel
theorem dX6_voice_36 : decode cX6_voice 36 = .ok (.istore_n 3, 1) := by decide +kernel
theorem dX6_voice_37 : decode cX6_voice 37 = .ok (.aload_n 0, 1) := by decide +kernel
theorem dX6_voice_38 : decode cX6_voice 38 = .ok (.getfield 19, 3) := by decide +kernel
theorem dX6_voice_41 : decode cX6_voice 41 = .ok (.getfield 123, 3) := by decide +kernel
theorem dX6_voice_44 : decode cX6_voice 44 = .ok (.iload_n 1, 1) := by decide +kernel
theorem dX6_voice_45 : decode cX6_voice 45 = .ok (.iload_n 2, 1) := by decide +kernel
theorem dX6_voice_46 : decode cX6_voice 46 = .ok (.iastore, 1) := by decide +kernel
theorem dX6_voice_47 : decode cX6_voice 47 = .ok (.iload_n 3, 1) := by decide +kernel
theorem dX6_voice_48 : decode cX6_voice 48 = .ok (.ireturn, 1) := by decide +kernel
theorem dX6_music_0 : decode cX6_music 0 = .ok (.iload_n 1, 1) := by decide +kernel
theorem dX6_music_1 : decode cX6_music 1 = .ok (.ifCond .lt 9, 3) := by decide +kernel
theorem dX6_music_4 : decode cX6_music 4 = .ok (.iload_n 1, 1) := by decide +kernel
theorem dX6_music_5 : decode cX6_music 5 = .ok (.bipush 9, 2) := by decide +kernel
theorem dX6_music_7 : decode cX6_music 7 = .ok (.if_icmp .le 6, 3) := by decide +kernel
theorem dX6_music_10 : decode cX6_music 10 = .ok (.bipush (-2), 2) := by decide +kernel
theorem dX6_music_12 : decode cX6_music 12 = .ok (.ireturn, 1) := by decide +kernel
theorem dX6_music_13 : decode cX6_music 13 = .ok (.aload_n 0, 1) := by decide +kernel
theorem dX6_music_14 : decode cX6_music 14 = .ok (.getfield 19, 3) := by decide +kernel
theorem dX6_music_17 : decode cX6_music 17 = .ok (.getfield 89, 3) := by decide +kernel
theorem dX6_music_20 : decode cX6_music 20 = .ok (.istore_n 3, 1) := by decide +kernel
theorem dX6_music_21 : decode cX6_music 21 = .ok (.aload_n 0, 1) := by decide +kernel
theorem dX6_music_22 : decode cX6_music 22 = .ok (.getfield 19, 3) := by decide +kernel
theorem dX6_music_25 : decode cX6_music 25 = .ok (.iload_n 1, 1) := by decide +kernel
theorem dX6_music_26 : decode cX6_music 26 = .ok (.putfield 89, 3) := by decide +kernel
theorem dX6_music_29 : decode cX6_music 29 = .ok (.aload_n 0, 1) := by decide +kernel
theorem dX6_music_30 : decode cX6_music 30 = .ok (.getfield 19, 3) := by decide +kernel
theorem dX6_music_33 : decode cX6_music 33 = .ok (.iload_n 2, 1) := by decide +kernel
theorem dX6_music_34 : decode cX6_music 34 = .ok (.putfield 156, 3) := by decide +kernel
theorem dX6_music_37 : decode cX6_music 37 = .ok (.iload_n 3, 1) := by decide +kernel
theorem dX6_music_38 : decode cX6_music 38 = .ok (.ireturn, 1) := by decide +kernel
theorem dX6_eats_0 : decode cX6_eats 0 = .ok (.iload_n 1, 1) := by decide +kernel
theorem dX6_eats_1 : decode cX6_eats 1 = .ok (.ifCond .lt 9, 3) := by decide +kernel
theorem dX6_eats_4 : decode cX6_eats 4 = .ok (.iload_n 1, 1) := by decide +kernel
theorem dX6_eats_5 : decode cX6_eats 5 = .ok (.bipush 9, 2) := by decide +kernel
theorem dX6_eats_7 : decode cX6_eats 7 = .ok (.if_icmp .le 6, 3) := by decide +kernel
theorem dX6_eats_10 : decode cX6_eats 10 = .ok (.bipush (-2), 2) := by decide +kernel
theorem dX6_eats_12 : decode cX6_eats 12 = .ok (.ireturn, 1) := by decide +kernel
theorem dX6_eats_13 : decode cX6_eats 13 = .ok (.aload_n 0, 1) := by decide +kernel
theorem dX6_eats_14 : decode cX6_eats 14 = .ok (.getfield 19, 3) := by decide +kernel
theorem dX6_eats_17 : decode cX6_eats 17 = .ok (.getfield 86, 3) := by decide +kernel
theorem dX6_eats_20 : decode cX6_eats 20 = .ok (.istore_n 2, 1) := by decide +kernel
theorem dX6_eats_21 : decode cX6_eats 21 = .ok (.aload_n 0, 1) := by decide +kernel
theorem dX6_eats_22 : decode cX6_eats 22 = .ok (.getfield 19, 3) := by decide +kernel
theorem dX6_eats_25 : decode cX6_eats 25 = .ok (.iload_n 1, 1) := by decide +kernel
theorem dX6_eats_26 : decode cX6_eats 26 = .ok (.putfield 86, 3) := by decide +kernel
theorem dX6_eats_29 : decode cX6_eats 29 = .ok (.iload_n 2, 1) := by decide +kernel
theorem dX6_eats_30 : decode cX6_eats 30 = .ok (.ireturn, 1) := by decide +kernel
set_option maxRecDepth 20000 in
theorem ggX6_minute_X0_add : GoodIn wsX6_minute wsX0_add := goodIn_r _ [7, 8, 9, 10, 11, 12, 6, 13, 14, 15, 16, 17, 18, 19, 20, 21, 22, 23, 24, 25, 26, 105, 106, 107, 108, 109, 110, 111, 112, 113, 114, 115, 116, 117, 118] (by decide +kernel) (by decide +kernel)
set_option maxRecDepth 20000 in
theorem gX6_minute_X0_add : GoodIn wsX6_minute (wsV RX6 160 RX0 yX0_add wsX0_add) := goodIn_app (goodIn_of _ (by decide +kernel)) ggX6_minute_X0_add
set_option maxRecDepth 20000 in
theorem ggX6_minute_X1_look : GoodIn wsX6_minute wsX1_look := goodIn_r _ [30, 19, 31, 21, 32, 33, 34, 35, 17, 36, 37, 38, 39, 40, 41, 42, 43, 44, 45, 46, 47, 48, 49, 22, 26, 23, 50, 51, 52, 53, 25, 54, 55, 56, 57, 58, 59, 60, 61, 62, 63, 64, 65, 66, 67, 68, 20, 69, 70, 71, 72, 73, 74, 75, 76, 77, 78, 79, 80, 81, 82, 83, 24, 84, 85, 86, 87, 88, 107, 108, 109, 110, 111, 112, 113, 114, 115, 116, 117, 118] (by decide +kernel) (by decide +kernel)
set_option maxRecDepth 20000 in
theorem gX6_minute_X1_look : GoodIn wsX6_minute (wsV RX6 163 RX1 yX1_look wsX1_look) := goodIn_app (goodIn_of _ (by decide +kernel)) ggX6_minute_X1_look
set_option maxRecDepth 20000 in
theorem ggX6_minute_X1_changing : GoodIn wsX6_minute wsX1_changing := goodIn_r _ [92, 19, 23, 31, 107, 108, 109, 110, 111, 112, 113, 114, 115, 116, 117, 118] (by decide +kernel) (by decide +kernel)
set_option maxRecDepth 20000 in
theorem gX6_minute_X1_changing : GoodIn wsX6_minute (wsV RX6 166 RX1 yX1_changing wsX1_changing) := goodIn_app (goodIn_of _ (by decide +kernel)) ggX6_minute_X1_changing
set_option maxRecDepth 20000 in
theorem ggX6_minute_X1_take : GoodIn wsX6_minute wsX1_take := goodIn_r _ [96, 19, 23, 31, 32, 25, 107, 108, 109, 110, 111, 112, 113, 114, 115, 116, 117, 118] (by decide +kernel) (by decide +kernel)
set_option maxRecDepth 20000 in
theorem gX6_minute_X1_take : GoodIn wsX6_minute (wsV RX6 169 RX1 yX1_take wsX1_take) := goodIn_app (goodIn_of _ (by decide +kernel)) ggX6_minute_X1_take
theorem dX6_minute_0 : decode cX6_minute 0 = .ok (.aload_n 0, 1) := by decide +kernel
theorem dX6_minute_1 : decode cX6_minute 1 = .ok (.getfield 39, 3) := by decide +kernel
theorem dX6_minute_4 : decode cX6_minute 4 = .ok (.aload_n 0, 1) := by decide +kernel
theorem dX6_minute_5 : decode cX6_minute 5 = .ok (.getfield 19, 3) := by decide +kernel
theorem dX6_minute_8 : decode cX6_minute 8 = .ok (.invokevirtual 160, 3) := by decide +kernel
theorem dX6_minute_11 : decode cX6_minute 11 = .ok (.aload_n 0, 1) := by decide +kernel
theorem dX6_minute_12 : decode cX6_minute 12 = .ok (.getfield 19, 3) := by decide +kernel
theorem dX6_minute_15 : decode cX6_minute 15 = .ok (.invokevirtual 163, 3) := by decide +kernel
theorem dX6_minute_18 : decode cX6_minute 18 = .ok (.aload_n 0, 1) := by decide +kernel
theorem dX6_minute_19 : decode cX6_minute 19 = .ok (.getfield 19, 3) := by decide +kernel
theorem dX6_minute_22 : decode cX6_minute 22 = .ok (.invokevirtual 166, 3) := by decide +kernel
theorem dX6_minute_25 : decode cX6_minute 25 = .ok (.istore_n 1, 1) := by decide +kernel
theorem dX6_minute_26 : decode cX6_minute 26 = .ok (.aload_n 0, 1) := by decide +kernel
theorem dX6_minute_27 : decode cX6_minute 27 = .ok (.getfield 19, 3) := by decide +kernel
theorem dX6_minute_30 : decode cX6_minute 30 = .ok (.invokevirtual 169, 3) := by decide +kernel
theorem dX6_minute_33 : decode cX6_minute 33 = .ok (.iload_n 1, 1) := by decide +kernel
theorem dX6_minute_34 : decode cX6_minute 34 = .ok (.ireturn, 1) := by decide +kernel
set_option maxRecDepth 20000 in
theorem ggX6_breaks_X1_has : GoodIn wsX6_breaks wsX1_has := goodIn_r _ [7, 8, 51, 52, 53, 54, 55, 56, 57, 58, 59, 60, 61, 62] (by decide +kernel) (by decide +kernel)
set_option maxRecDepth 20000 in
theorem gX6_breaks_X1_has : GoodIn wsX6_breaks (wsV RX6 109 RX1 yX1_has wsX1_has) := goodIn_app (goodIn_of _ (by decide +kernel)) ggX6_breaks_X1_has
set_option maxRecDepth 20000 in
theorem ggX6_breaks_X0_add : GoodIn wsX6_breaks wsX0_add := goodIn_r _ [13, 14, 15, 16, 17, 18, 12, 19, 20, 21, 22, 6, 23, 8, 24, 25, 26, 27, 28, 29, 30, 63, 64, 51, 52, 53, 54, 55, 56, 57, 58, 59, 60, 61, 62] (by decide +kernel) (by decide +kernel)
set_option maxRecDepth 20000 in
theorem gX6_breaks_X0_add : GoodIn wsX6_breaks (wsV RX6 160 RX0 yX0_add wsX0_add) := goodIn_app (goodIn_of _ (by decide +kernel)) ggX6_breaks_X0_add
set_option maxRecDepth 20000 in
theorem ggX6_breaks_X1_firstFree : GoodIn wsX6_breaks wsX1_firstFree := goodIn_r _ [34, 35, 36, 37, 6, 38, 8, 25, 51, 52, 53, 54, 55, 56, 57, 58, 59, 60, 61, 62] (by decide +kernel) (by decide +kernel)
set_option maxRecDepth 20000 in
theorem gX6_breaks_X1_firstFree : GoodIn wsX6_breaks (wsV RX6 172 RX1 yX1_firstFree wsX1_firstFree) := goodIn_app (goodIn_of _ (by decide +kernel)) ggX6_breaks_X1_firstFree
set_option maxRecDepth 20000 in
theorem ggX6_breaks_X1_add : GoodIn wsX6_breaks wsX1_add := goodIn_r _ [42, 8, 24, 25, 26, 27, 28, 51, 52, 53, 54, 55, 56, 57, 58, 59, 60, 61, 62] (by decide +kernel) (by decide +kernel)
set_option maxRecDepth 20000 in
theorem gX6_breaks_X1_add : GoodIn wsX6_breaks (wsV RX6 175 RX1 yX1_add wsX1_add) := goodIn_app (goodIn_of _ (by decide +kernel)) ggX6_breaks_X1_add
theorem dX6_breaks_0 : decode cX6_breaks 0 = .ok (.aload_n 0, 1) := by decide +kernel
theorem dX6_breaks_1 : decode cX6_breaks 1 = .ok (.getfield 19, 3) := by decide +kernel
theorem dX6_breaks_4 : decode cX6_breaks 4 = .ok (.iload_n 1, 1) := by decide +kernel
theorem dX6_breaks_5 : decode cX6_breaks 5 = .ok (.invokevirtual 109, 3) := by decide +kernel
theorem dX6_breaks_8 : decode cX6_breaks 8 = .ok (.ifCond .ne 5, 3) := by decide +kernel
theorem dX6_breaks_11 : decode cX6_breaks 11 = .ok (.iconst (-1), 1) := by decide +kernel
theorem dX6_breaks_12 : decode cX6_breaks 12 = .ok (.ireturn, 1) := by decide +kernel
theorem dX6_breaks_13 : decode cX6_breaks 13 = .ok (.aload_n 0, 1) := by decide +kernel
theorem dX6_breaks_14 : decode cX6_breaks 14 = .ok (.getfield 19, 3) := by decide +kernel
theorem dX6_breaks_17 : decode cX6_breaks 17 = .ok (.getfield 120, 3) := by decide +kernel
theorem dX6_breaks_20 : decode cX6_breaks 20 = .ok (.iload_n 1, 1) := by decide +kernel
theorem dX6_breaks_21 : decode cX6_breaks 21 = .ok (.iaload, 1) := by decide +kernel
theorem dX6_breaks_22 : decode cX6_breaks 22 = .ok (.iconst 4, 1) := by decide +kernel
theorem dX6_breaks_23 : decode cX6_breaks 23 = .ok (.if_icmp .ge 6, 3) := by decide +kernel
theorem dX6_breaks_26 : decode cX6_breaks 26 = .ok (.bipush (-3), 2) := by decide +kernel
theorem dX6_breaks_28 : decode cX6_breaks 28 = .ok (.ireturn, 1) := by decide +kernel
theorem dX6_breaks_29 : decode cX6_breaks 29 = .ok (.aload_n 0, 1) := by decide +kernel
theorem dX6_breaks_30 : decode cX6_breaks 30 = .ok (.getfield 19, 3) := by decide +kernel
theorem dX6_breaks_33 : decode cX6_breaks 33 = .ok (.getfield 79, 3) := by decide +kernel
theorem dX6_breaks_36 : decode cX6_breaks 36 = .ok (.bipush 8, 2) := by decide +kernel
theorem dX6_breaks_38 : decode cX6_breaks 38 = .ok (.if_icmp .lt 6, 3) := by decide +kernel
theorem dX6_breaks_41 : decode cX6_breaks 41 = .ok (.bipush (-4), 2) := by decide +kernel
theorem dX6_breaks_43 : decode cX6_breaks 43 = .ok (.ireturn, 1) := by decide +kernel
theorem dX6_breaks_44 : decode cX6_breaks 44 = .ok (.aload_n 0, 1) := by decide +kernel
theorem dX6_breaks_45 : decode cX6_breaks 45 = .ok (.getfield 39, 3) := by decide +kernel
theorem dX6_breaks_48 : decode cX6_breaks 48 = .ok (.aload_n 0, 1) := by decide +kernel
theorem dX6_breaks_49 : decode cX6_breaks 49 = .ok (.getfield 19, 3) := by decide +kernel
theorem dX6_breaks_52 : decode cX6_breaks 52 = .ok (.invokevirtual 160, 3) := by decide +kernel
theorem dX6_breaks_55 : decode cX6_breaks 55 = .ok (.aload_n 0, 1) := by decide +kernel
theorem dX6_breaks_56 : decode cX6_breaks 56 = .ok (.getfield 19, 3) := by decide +kernel
theorem dX6_breaks_59 : decode cX6_breaks 59 = .ok (.getfield 120, 3) := by decide +kernel
theorem dX6_breaks_62 : decode cX6_breaks 62 = .ok (.iload_n 1, 1) := by decide +kernel
theorem dX6_breaks_63 : decode cX6_breaks 63 = .ok (.iaload, 1) := by decide +kernel
theorem dX6_breaks_64 : decode cX6_breaks 64 = .ok (.iconst 2, 1) := by decide +kernel
theorem dX6_breaks_65 : decode cX6_breaks 65 = .ok (.idiv, 1) := by decide +kernel
theorem dX6_breaks_66 : decode cX6_breaks 66 = .ok (.istore_n 2, 1) := by decide +kernel
theorem dX6_breaks_67 : decode cX6_breaks 67 = .ok (.aload_n 0, 1) := by decide +kernel
theorem dX6_breaks_68 : decode cX6_breaks 68 = .ok (.getfield 19, 3) := by decide +kernel
theorem dX6_breaks_71 : decode cX6_breaks 71 = .ok (.getfield 120, 3) := by decide +kernel
theorem dX6_breaks_74 : decode cX6_breaks 74 = .ok (.iload_n 1, 1) := by decide +kernel
theorem dX6_breaks_75 : decode cX6_breaks 75 = .ok (.iaload, 1) := by decide +kernel
theorem dX6_breaks_76 : decode cX6_breaks 76 = .ok (.iload_n 2, 1) := by decide +kernel
theorem dX6_breaks_77 : decode cX6_breaks 77 = .ok (.isub, 1) := by decide +kernel
theorem dX6_breaks_78 : decode cX6_breaks 78 = .ok (.istore_n 3, 1) := by decide +kernel
theorem dX6_breaks_79 : decode cX6_breaks 79 = .ok (.aload_n 0, 1) := by decide +kernel
theorem dX6_breaks_80 : decode cX6_breaks 80 = .ok (.getfield 19, 3) := by decide +kernel
theorem dX6_breaks_83 : decode cX6_breaks 83 = .ok (.getfield 120, 3) := by decide +kernel
theorem dX6_breaks_86 : decode cX6_breaks 86 = .ok (.iload_n 1, 1) := by decide +kernel
theorem dX6_breaks_87 : decode cX6_breaks 87 = .ok (.iload_n 2, 1) := by decide +kernel
theorem dX6_breaks_88 : decode cX6_breaks 88 = .ok (.iastore, 1) := by decide +kernel
theorem dX6_breaks_89 : decode cX6_breaks 89 = .ok (.aload_n 0, 1) := by decide +kernel
theorem dX6_breaks_90 : decode cX6_breaks 90 = .ok (.getfield 19, 3) := by decide +kernel
theorem dX6_breaks_93 : decode cX6_breaks 93 = .ok (.aload_n 0, 1) := by decide +kernel
theorem dX6_breaks_94 : decode cX6_breaks 94 = .ok (.getfield 19, 3) := by decide +kernel
theorem dX6_breaks_97 : decode cX6_breaks 97 = .ok (.getfield 113, 3) := by decide +kernel
theorem dX6_breaks_100 : decode cX6_breaks 100 = .ok (.iload_n 1, 1) := by decide +kernel
theorem dX6_breaks_101 : decode cX6_breaks 101 = .ok (.iaload, 1) := by decide +kernel
theorem dX6_breaks_102 : decode cX6_breaks 102 = .ok (.aload_n 0, 1) := by decide +kernel
theorem dX6_breaks_103 : decode cX6_breaks 103 = .ok (.getfield 19, 3) := by decide +kernel
theorem dX6_breaks_106 : decode cX6_breaks 106 = .ok (.invokevirtual 172, 3) := by decide +kernel
theorem dX6_breaks_109 : decode cX6_breaks 109 = .ok (.iload_n 3, 1) := by decide +kernel
theorem dX6_breaks_110 : decode cX6_breaks 110 = .ok (.aload_n 0, 1) := by decide +kernel
theorem dX6_breaks_111 : decode cX6_breaks 111 = .ok (.getfield 19, 3) := by decide +kernel
theorem dX6_breaks_114 : decode cX6_breaks 114 = .ok (.getfield 123, 3) := by decide +kernel
theorem dX6_breaks_117 : decode cX6_breaks 117 = .ok (.iload_n 1, 1) := by decide +kernel
theorem dX6_breaks_118 : decode cX6_breaks 118 = .ok (.iaload, 1) := by decide +kernel
theorem dX6_breaks_119 : decode cX6_breaks 119 = .ok (.aload_n 0, 1) := by decide +kernel
theorem dX6_breaks_120 : decode cX6_breaks 120 = .ok (.getfield 19, 3) := by decide +kernel
theorem dX6_breaks_123 : decode cX6_breaks 123 = .ok (.getfield 126, 3) := by decide +kernel
theorem dX6_breaks_126 : decode cX6_breaks 126 = .ok (.iload_n 1, 1) := by decide +kernel
theorem dX6_breaks_127 : decode cX6_breaks 127 = .ok (.iaload, 1) := by decide +kernel
theorem dX6_breaks_128 : decode cX6_breaks 128 = .ok (.invokevirtual 175, 3) := by decide +kernel
theorem dX6_breaks_131 : decode cX6_breaks 131 = .ok (.aload_n 0, 1) := by decide +kernel
theorem dX6_breaks_132 : decode cX6_breaks 132 = .ok (.getfield 19, 3) := by decide +kernel
theorem dX6_breaks_135 : decode cX6_breaks 135 = .ok (.getfield 79, 3) := by decide +kernel
theorem dX6_breaks_138 : decode cX6_breaks 138 = .ok (.iconst 1, 1) := by decide +kernel
theorem dX6_breaks_139 : decode cX6_breaks 139 = .ok (.isub, 1) := by decide +kernel
theorem dX6_breaks_140 : decode cX6_breaks 140 = .ok (.ireturn, 1) := by decide +kernel
set_option maxRecDepth 20000 in
theorem ggX6_joins_X1_has : GoodIn wsX6_joins wsX1_has := goodIn_r _ [7, 8, 44, 45, 46, 47, 48, 49, 50, 51, 52, 53, 54, 55] (by decide +kernel) (by decide +kernel)
set_option maxRecDepth 20000 in
theorem gX6_joins_X1_has : GoodIn wsX6_joins (wsV RX6 109 RX1 yX1_has wsX1_has) := goodIn_app (goodIn_of _ (by decide +kernel)) ggX6_joins_X1_has
set_option maxRecDepth 20000 in
theorem ggX6_joins_X0_add : GoodIn wsX6_joins wsX0_add := goodIn_r _ [13, 14, 15, 16, 17, 18, 12, 19, 20, 21, 22, 6, 23, 8, 24, 25, 26, 27, 28, 29, 30, 56, 57, 44, 45, 46, 47, 48, 49, 50, 51, 52, 53, 54, 55] (by decide +kernel) (by decide +kernel)
set_option maxRecDepth 20000 in
theorem gX6_joins_X0_add : GoodIn wsX6_joins (wsV RX6 160 RX0 yX0_add wsX0_add) := goodIn_app (goodIn_of _ (by decide +kernel)) ggX6_joins_X0_add
set_option maxRecDepth 20000 in
theorem ggX6_joins_X1_remove : GoodIn wsX6_joins wsX1_remove := goodIn_r _ [34, 8, 24, 25, 26, 27, 28, 35, 4, 5, 6, 7, 44, 45, 46, 47, 48, 49, 50, 51, 52, 53, 54, 55] (by decide +kernel) (by decide +kernel)
set_option maxRecDepth 20000 in
theorem gX6_joins_X1_remove : GoodIn wsX6_joins (wsV RX6 178 RX1 yX1_remove wsX1_remove) := goodIn_app (goodIn_of _ (by decide +kernel)) ggX6_joins_X1_remove
theorem dX6_joins_0 : decode cX6_joins 0 = .ok (.aload_n 0, 1) := by decide +kernel
theorem dX6_joins_1 : decode cX6_joins 1 = .ok (.getfield 19, 3) := by decide +kernel
theorem dX6_joins_4 : decode cX6_joins 4 = .ok (.iload_n 1, 1) := by decide +kernel
theorem dX6_joins_5 : decode cX6_joins 5 = .ok (.invokevirtual 109, 3) := by decide +kernel
theorem dX6_joins_8 : decode cX6_joins 8 = .ok (.ifCond .eq 14, 3) := by decide +kernel
theorem dX6_joins_11 : decode cX6_joins 11 = .ok (.aload_n 0, 1) := by decide +kernel
theorem dX6_joins_12 : decode cX6_joins 12 = .ok (.getfield 19, 3) := by decide +kernel
theorem dX6_joins_15 : decode cX6_joins 15 = .ok (.iload_n 2, 1) := by decide +kernel
theorem dX6_joins_16 : decode cX6_joins 16 = .ok (.invokevirtual 109, 3) := by decide +kernel
theorem dX6_joins_19 : decode cX6_joins 19 = .ok (.ifCond .ne 5, 3) := by decide +kernel
theorem dX6_joins_22 : decode cX6_joins 22 = .ok (.iconst (-1), 1) := by decide +kernel
theorem dX6_joins_23 : decode cX6_joins 23 = .ok (.ireturn, 1) := by decide +kernel
theorem dX6_joins_24 : decode cX6_joins 24 = .ok (.iload_n 1, 1) := by decide +kernel
theorem dX6_joins_25 : decode cX6_joins 25 = .ok (.iload_n 2, 1) := by decide +kernel
theorem dX6_joins_26 : decode cX6_joins 26 = .ok (.if_icmp .ne 6, 3) := by decide +kernel
theorem dX6_joins_29 : decode cX6_joins 29 = .ok (.bipush (-2), 2) := by decide +kernel
theorem dX6_joins_31 : decode cX6_joins 31 = .ok (.ireturn, 1) := by decide +kernel
theorem dX6_joins_32 : decode cX6_joins 32 = .ok (.aload_n 0, 1) := by decide +kernel
theorem dX6_joins_33 : decode cX6_joins 33 = .ok (.getfield 19, 3) := by decide +kernel
theorem dX6_joins_36 : decode cX6_joins 36 = .ok (.getfield 120, 3) := by decide +kernel
theorem dX6_joins_39 : decode cX6_joins 39 = .ok (.iload_n 1, 1) := by decide +kernel
theorem dX6_joins_40 : decode cX6_joins 40 = .ok (.iaload, 1) := by decide +kernel
theorem dX6_joins_41 : decode cX6_joins 41 = .ok (.aload_n 0, 1) := by decide +kernel
theorem dX6_joins_42 : decode cX6_joins 42 = .ok (.getfield 19, 3) := by decide +kernel
theorem dX6_joins_45 : decode cX6_joins 45 = .ok (.getfield 120, 3) := by decide +kernel
theorem dX6_joins_48 : decode cX6_joins 48 = .ok (.iload_n 2, 1) := by decide +kernel
theorem dX6_joins_49 : decode cX6_joins 49 = .ok (.iaload, 1) := by decide +kernel
theorem dX6_joins_50 : decode cX6_joins 50 = .ok (.iadd, 1) := by decide +kernel
theorem dX6_joins_51 : decode cX6_joins 51 = .ok (.istore_n 3, 1) := by decide +kernel
theorem dX6_joins_52 : decode cX6_joins 52 = .ok (.iload_n 3, 1) := by decide +kernel
theorem dX6_joins_53 : decode cX6_joins 53 = .ok (.bipush 9, 2) := by decide +kernel
theorem dX6_joins_55 : decode cX6_joins 55 = .ok (.if_icmp .le 6, 3) := by decide +kernel
theorem dX6_joins_58 : decode cX6_joins 58 = .ok (.bipush (-4), 2) := by decide +kernel
theorem dX6_joins_60 : decode cX6_joins 60 = .ok (.ireturn, 1) := by decide +kernel
theorem dX6_joins_61 : decode cX6_joins 61 = .ok (.aload_n 0, 1) := by decide +kernel
theorem dX6_joins_62 : decode cX6_joins 62 = .ok (.getfield 39, 3) := by decide +kernel
theorem dX6_joins_65 : decode cX6_joins 65 = .ok (.aload_n 0, 1) := by decide +kernel
theorem dX6_joins_66 : decode cX6_joins 66 = .ok (.getfield 19, 3) := by decide +kernel
theorem dX6_joins_69 : decode cX6_joins 69 = .ok (.invokevirtual 160, 3) := by decide +kernel
theorem dX6_joins_72 : decode cX6_joins 72 = .ok (.aload_n 0, 1) := by decide +kernel
theorem dX6_joins_73 : decode cX6_joins 73 = .ok (.getfield 19, 3) := by decide +kernel
theorem dX6_joins_76 : decode cX6_joins 76 = .ok (.getfield 120, 3) := by decide +kernel
theorem dX6_joins_79 : decode cX6_joins 79 = .ok (.iload_n 1, 1) := by decide +kernel
theorem dX6_joins_80 : decode cX6_joins 80 = .ok (.iload_n 3, 1) := by decide +kernel
theorem dX6_joins_81 : decode cX6_joins 81 = .ok (.iastore, 1) := by decide +kernel
theorem dX6_joins_82 : decode cX6_joins 82 = .ok (.aload_n 0, 1) := by decide +kernel
theorem dX6_joins_83 : decode cX6_joins 83 = .ok (.getfield 19, 3) := by decide +kernel
theorem dX6_joins_86 : decode cX6_joins 86 = .ok (.iload_n 2, 1) := by decide +kernel
theorem dX6_joins_87 : decode cX6_joins 87 = .ok (.invokevirtual 178, 3) := by decide +kernel
theorem dX6_joins_90 : decode cX6_joins 90 = .ok (.iload_n 3, 1) := by decide +kernel
theorem dX6_joins_91 : decode cX6_joins 91 = .ok (.ireturn, 1) := by decide +kernel
set_option maxRecDepth 20000 in
theorem ggX6_home_X1_has : GoodIn wsX6_home wsX1_has := goodIn_r _ [7, 8, 44, 45, 46, 47, 48, 49, 50, 51, 52, 53, 54, 55] (by decide +kernel) (by decide +kernel)
set_option maxRecDepth 20000 in
theorem gX6_home_X1_has : GoodIn wsX6_home (wsV RX6 109 RX1 yX1_has wsX1_has) := goodIn_app (goodIn_of _ (by decide +kernel)) ggX6_home_X1_has
set_option maxRecDepth 20000 in
theorem ggX6_home_X0_add : GoodIn wsX6_home wsX0_add := goodIn_r _ [13, 14, 15, 16, 17, 18, 12, 19, 20, 21, 22, 6, 23, 8, 24, 25, 26, 27, 28, 29, 30, 56, 57, 44, 45, 46, 47, 48, 49, 50, 51, 52, 53, 54, 55] (by decide +kernel) (by decide +kernel)
set_option maxRecDepth 20000 in
theorem gX6_home_X0_add : GoodIn wsX6_home (wsV RX6 160 RX0 yX0_add wsX0_add) := goodIn_app (goodIn_of _ (by decide +kernel)) ggX6_home_X0_add
set_option maxRecDepth 20000 in
theorem ggX6_home_X1_remove : GoodIn wsX6_home wsX1_remove := goodIn_r _ [34, 8, 24, 25, 26, 27, 28, 35, 4, 5, 6, 7, 44, 45, 46, 47, 48, 49, 50, 51, 52, 53, 54, 55] (by decide +kernel) (by decide +kernel)
set_option maxRecDepth 20000 in
theorem gX6_home_X1_remove : GoodIn wsX6_home (wsV RX6 178 RX1 yX1_remove wsX1_remove) := goodIn_app (goodIn_of _ (by decide +kernel)) ggX6_home_X1_remove
theorem dX6_home_0 : decode cX6_home 0 = .ok (.aload_n 0, 1) := by decide +kernel
theorem dX6_home_1 : decode cX6_home 1 = .ok (.getfield 19, 3) := by decide +kernel
theorem dX6_home_4 : decode cX6_home 4 = .ok (.iload_n 1, 1) := by decide +kernel
theorem dX6_home_5 : decode cX6_home 5 = .ok (.invokevirtual 109, 3) := by decide +kernel
theorem dX6_home_8 : decode cX6_home 8 = .ok (.ifCond .ne 5, 3) := by decide +kernel
theorem dX6_home_11 : decode cX6_home 11 = .ok (.iconst (-1), 1) := by decide +kernel
theorem dX6_home_12 : decode cX6_home 12 = .ok (.ireturn, 1) := by decide +kernel
theorem dX6_home_13 : decode cX6_home 13 = .ok (.aload_n 0, 1) := by decide +kernel
theorem dX6_home_14 : decode cX6_home 14 = .ok (.getfield 39, 3) := by decide +kernel
theorem dX6_home_17 : decode cX6_home 17 = .ok (.aload_n 0, 1) := by decide +kernel
theorem dX6_home_18 : decode cX6_home 18 = .ok (.getfield 19, 3) := by decide +kernel
theorem dX6_home_21 : decode cX6_home 21 = .ok (.invokevirtual 160, 3) := by decide +kernel
theorem dX6_home_24 : decode cX6_home 24 = .ok (.aload_n 0, 1) := by decide +kernel
theorem dX6_home_25 : decode cX6_home 25 = .ok (.getfield 19, 3) := by decide +kernel
theorem dX6_home_28 : decode cX6_home 28 = .ok (.iload_n 1, 1) := by decide +kernel
theorem dX6_home_29 : decode cX6_home 29 = .ok (.invokevirtual 178, 3) := by decide +kernel
theorem dX6_home_32 : decode cX6_home 32 = .ok (.aload_n 0, 1) := by decide +kernel
theorem dX6_home_33 : decode cX6_home 33 = .ok (.getfield 19, 3) := by decide +kernel
theorem dX6_home_36 : decode cX6_home 36 = .ok (.getfield 79, 3) := by decide +kernel
theorem dX6_home_39 : decode cX6_home 39 = .ok (.ireturn, 1) := by decide +kernel
set_option maxRecDepth 20000 in
theorem ggX6_hush_X0_add : GoodIn wsX6_hush wsX0_add := goodIn_r _ [7, 8, 9, 10, 11, 12, 6, 13, 14, 15, 16, 17, 18, 19, 20, 21, 22, 23, 24, 25, 26, 39, 40, 41, 42, 43, 44, 45, 46, 47, 48, 49, 50, 51, 52] (by decide +kernel) (by decide +kernel)
set_option maxRecDepth 20000 in
theorem gX6_hush_X0_add : GoodIn wsX6_hush (wsV RX6 160 RX0 yX0_add wsX0_add) := goodIn_app (goodIn_of _ (by decide +kernel)) ggX6_hush_X0_add
set_option maxRecDepth 20000 in
theorem ggX6_hush_X1_speakAll : GoodIn wsX6_hush wsX1_speakAll := goodIn_r _ [30, 19, 23, 41, 42, 43, 44, 45, 46, 47, 48, 49, 50, 51, 52] (by decide +kernel) (by decide +kernel)
set_option maxRecDepth 20000 in
theorem gX6_hush_X1_speakAll : GoodIn wsX6_hush (wsV RX6 182 RX1 yX1_speakAll wsX1_speakAll) := goodIn_app (goodIn_of _ (by decide +kernel)) ggX6_hush_X1_speakAll
theorem dX6_hush_0 : decode cX6_hush 0 = .ok (.aload_n 0, 1) := by decide +kernel
theorem dX6_hush_1 : decode cX6_hush 1 = .ok (.getfield 39, 3) := by decide +kernel
theorem dX6_hush_4 : decode cX6_hush 4 = .ok (.aload_n 0, 1) := by decide +kernel
theorem dX6_hush_5 : decode cX6_hush 5 = .ok (.getfield 19, 3) := by decide +kernel
theorem dX6_hush_8 : decode cX6_hush 8 = .ok (.invokevirtual 160, 3) := by decide +kernel
theorem dX6_hush_11 : decode cX6_hush 11 = .ok (.aload_n 0, 1) := by decide +kernel
theorem dX6_hush_12 : decode cX6_hush 12 = .ok (.getfield 19, 3) := by decide +kernel
theorem dX6_hush_15 : decode cX6_hush 15 = .ok (.iconst 1, 1) := by decide +kernel
theorem dX6_hush_16 : decode cX6_hush 16 = .ok (.invokevirtual 182, 3) := by decide +kernel
theorem dX6_hush_19 : decode cX6_hush 19 = .ok (.ireturn, 1) := by decide +kernel
set_option maxRecDepth 20000 in
theorem ggX6_undo_X0_undoLast : GoodIn wsX6_undo wsX0_undoLast := goodIn_r _ [7, 8, 9, 10, 11, 12, 13, 14, 15, 16, 17, 18, 19, 20, 21, 22, 31, 32, 33, 34, 35, 36, 37, 38, 39, 40, 41, 42, 43, 44] (by decide +kernel) (by decide +kernel)
set_option maxRecDepth 20000 in
theorem gX6_undo_X0_undoLast : GoodIn wsX6_undo (wsV RX6 185 RX0 yX0_undoLast wsX0_undoLast) := goodIn_app (goodIn_of _ (by decide +kernel)) ggX6_undo_X0_undoLast
theorem dX6_undo_0 : decode cX6_undo 0 = .ok (.aload_n 0, 1) := by decide +kernel
theorem dX6_undo_1 : decode cX6_undo 1 = .ok (.getfield 39, 3) := by decide +kernel
theorem dX6_undo_4 : decode cX6_undo 4 = .ok (.getfield 104, 3) := by decide +kernel
theorem dX6_undo_7 : decode cX6_undo 7 = .ok (.iconst 1, 1) := by decide +kernel
theorem dX6_undo_8 : decode cX6_undo 8 = .ok (.if_icmp .ge 6, 3) := by decide +kernel
theorem dX6_undo_11 : decode cX6_undo 11 = .ok (.bipush (-3), 2) := by decide +kernel
theorem dX6_undo_13 : decode cX6_undo 13 = .ok (.ireturn, 1) := by decide +kernel
theorem dX6_undo_14 : decode cX6_undo 14 = .ok (.aload_n 0, 1) := by decide +kernel
theorem dX6_undo_15 : decode cX6_undo 15 = .ok (.getfield 39, 3) := by decide +kernel
theorem dX6_undo_18 : decode cX6_undo 18 = .ok (.aload_n 0, 1) := by decide +kernel
theorem dX6_undo_19 : decode cX6_undo 19 = .ok (.getfield 19, 3) := by decide +kernel
theorem dX6_undo_22 : decode cX6_undo 22 = .ok (.invokevirtual 185, 3) := by decide +kernel
theorem dX6_undo_25 : decode cX6_undo 25 = .ok (.aload_n 0, 1) := by decide +kernel
theorem dX6_undo_26 : decode cX6_undo 26 = .ok (.getfield 39, 3) := by decide +kernel
theorem dX6_undo_29 : decode cX6_undo 29 = .ok (.getfield 104, 3) := by decide +kernel
theorem dX6_undo_32 : decode cX6_undo 32 = .ok (.ireturn, 1) := by decide +kernel
set_option maxRecDepth 20000 in
theorem ggX6_rest_X1_copyFrom : GoodIn wsX6_rest wsX1_copyFrom := goodIn_r _ [7, 8, 9, 10, 11, 12, 6, 13, 14, 15, 16, 17, 18, 19, 20, 21, 107, 108, 109, 110, 111, 112, 113, 114, 115, 116, 117, 118] (by decide +kernel) (by decide +kernel)
set_option maxRecDepth 20000 in
theorem gX6_rest_X1_copyFrom : GoodIn wsX6_rest (wsV RX6 69 RX1 yX1_copyFrom wsX1_copyFrom) := goodIn_app (goodIn_of _ (by decide +kernel)) ggX6_rest_X1_copyFrom
set_option maxRecDepth 20000 in
theorem ggX6_rest_X1_speakAll : GoodIn wsX6_rest wsX1_speakAll := goodIn_r _ [25, 14, 18, 107, 108, 109, 110, 111, 112, 113, 114, 115, 116, 117, 118] (by decide +kernel) (by decide +kernel)
set_option maxRecDepth 20000 in
theorem gX6_rest_X1_speakAll : GoodIn wsX6_rest (wsV RX6 182 RX1 yX1_speakAll wsX1_speakAll) := goodIn_app (goodIn_of _ (by decide +kernel)) ggX6_rest_X1_speakAll
set_option maxRecDepth 20000 in
theorem ggX6_rest_X1_settle : GoodIn wsX6_rest wsX1_settle := goodIn_r _ [29, 30, 20, 31, 32, 33, 6, 34, 14, 35, 16, 36, 37, 38, 39, 8, 40, 41, 42, 43, 44, 45, 46, 47, 48, 49, 50, 51, 17, 21, 18, 52, 53, 54, 55, 56, 57, 58, 59, 60, 61, 62, 63, 64, 65, 66, 67, 68, 69, 70, 15, 71, 72, 73, 74, 75, 76, 77, 78, 79, 80, 81, 82, 83, 84, 85, 19, 86, 87, 88, 89, 9, 90, 91, 92, 93, 94, 95, 96, 97, 107, 108, 109, 110, 111, 112, 113, 114, 115, 116, 117, 118] (by decide +kernel) (by decide +kernel)
set_option maxRecDepth 20000 in
theorem gX6_rest_X1_settle : GoodIn wsX6_rest (wsV RX6 188 RX1 yX1_settle wsX1_settle) := goodIn_app (goodIn_of _ (by decide +kernel)) ggX6_rest_X1_settle
set_option maxRecDepth 20000 in
theorem ggX6_rest_X1_loudAll : GoodIn wsX6_rest wsX1_loudAll := goodIn_r _ [47, 14, 48, 49, 50, 6, 51, 17, 21, 18, 107, 108, 109, 110, 111, 112, 113, 114, 115, 116, 117, 118] (by decide +kernel) (by decide +kernel)
set_option maxRecDepth 20000 in
theorem gX6_rest_X1_loudAll : GoodIn wsX6_rest (wsV RX6 95 RX1 yX1_loudAll wsX1_loudAll) := goodIn_app (goodIn_of _ (by decide +kernel)) ggX6_rest_X1_loudAll
theorem dX6_rest_0 : decode cX6_rest 0 = .ok (.iload_n 1, 1) := by decide +kernel
theorem dX6_rest_1 : decode cX6_rest 1 = .ok (.ifCond .lt 8, 3) := by decide +kernel
theorem dX6_rest_4 : decode cX6_rest 4 = .ok (.iload_n 1, 1) := by decide +kernel
theorem dX6_rest_5 : decode cX6_rest 5 = .ok (.iconst 2, 1) := by decide +kernel
theorem dX6_rest_6 : decode cX6_rest 6 = .ok (.if_icmp .le 6, 3) := by decide +kernel
theorem dX6_rest_9 : decode cX6_rest 9 = .ok (.bipush (-2), 2) := by decide +kernel
theorem dX6_rest_11 : decode cX6_rest 11 = .ok (.ireturn, 1) := by decide +kernel
theorem dX6_rest_12 : decode cX6_rest 12 = .ok (.aload_n 0, 1) := by decide +kernel
theorem dX6_rest_13 : decode cX6_rest 13 = .ok (.getfield 23, 3) := by decide +kernel
theorem dX6_rest_16 : decode cX6_rest 16 = .ok (.aload_n 0, 1) := by decide +kernel
theorem dX6_rest_17 : decode cX6_rest 17 = .ok (.getfield 19, 3) := by decide +kernel
theorem dX6_rest_20 : decode cX6_rest 20 = .ok (.invokevirtual 69, 3) := by decide +kernel
theorem dX6_rest_23 : decode cX6_rest 23 = .ok (.iload_n 1, 1) := by decide +kernel
theorem dX6_rest_24 : decode cX6_rest 24 = .ok (.iconst 1, 1) := by decide +kernel
theorem dX6_rest_25 : decode cX6_rest 25 = .ok (.if_icmp .ne 15, 3) := by decide +kernel
theorem dX6_rest_28 : decode cX6_rest 28 = .ok (.aload_n 0, 1) := by decide +kernel
theorem dX6_rest_29 : decode cX6_rest 29 = .ok (.getfield 23, 3) := by decide +kernel
theorem dX6_rest_32 : decode cX6_rest 32 = .ok (.iconst 1, 1) := by decide +kernel
theorem dX6_rest_33 : decode cX6_rest 33 = .ok (.invokevirtual 182, 3) := by decide +kernel
theorem dX6_rest_36 : decode cX6_rest 36 = .ok (.pop, 1) := by decide +kernel
theorem dX6_rest_37 : decode cX6_rest 37 = .ok (.goto 18, 3) := by decide +kernel
theorem dX6_rest_40 : decode cX6_rest 40 = .ok (.iload_n 1, 1) := by decide +kernel
theorem dX6_rest_41 : decode cX6_rest 41 = .ok (.iconst 2, 1) := by decide +kernel
theorem dX6_rest_42 : decode cX6_rest 42 = .ok (.if_icmp .ne 13, 3) := by decide +kernel
theorem dX6_rest_45 : decode cX6_rest 45 = .ok (.aload_n 0, 1) := by decide +kernel
theorem dX6_rest_46 : decode cX6_rest 46 = .ok (.getfield 23, 3) := by decide +kernel
theorem dX6_rest_49 : decode cX6_rest 49 = .ok (.bipush 9, 2) := by decide +kernel
theorem dX6_rest_51 : decode cX6_rest 51 = .ok (.invokevirtual 182, 3) := by decide +kernel
theorem dX6_rest_54 : decode cX6_rest 54 = .ok (.pop, 1) := by decide +kernel
theorem dX6_rest_55 : decode cX6_rest 55 = .ok (.aload_n 0, 1) := by decide +kernel
theorem dX6_rest_56 : decode cX6_rest 56 = .ok (.getfield 23, 3) := by decide +kernel
theorem dX6_rest_59 : decode cX6_rest 59 = .ok (.invokevirtual 188, 3) := by decide +kernel
theorem dX6_rest_62 : decode cX6_rest 62 = .ok (.istore_n 3, 1) := by decide +kernel
theorem dX6_rest_63 : decode cX6_rest 63 = .ok (.iload_n 3, 1) := by decide +kernel
theorem dX6_rest_64 : decode cX6_rest 64 = .ok (.bipush (-9), 2) := by decide +kernel
theorem dX6_rest_66 : decode cX6_rest 66 = .ok (.if_icmp .ne 6, 3) := by decide +kernel
theorem dX6_rest_69 : decode cX6_rest 69 = .ok (.bipush (-9), 2) := by decide +kernel
theorem dX6_rest_71 : decode cX6_rest 71 = .ok (.ireturn, 1) := by decide +kernel
theorem dX6_rest_72 : decode cX6_rest 72 = .ok (.iload_n 2, 1) := by decide +kernel
theorem dX6_rest_73 : decode cX6_rest 73 = .ok (.ifCond .eq 7, 3) := by decide +kernel
theorem dX6_rest_76 : decode cX6_rest 76 = .ok (.iload_n 3, 1) := by decide +kernel
theorem dX6_rest_77 : decode cX6_rest 77 = .ok (.goto 10, 3) := by decide +kernel
theorem dX6_rest_80 : decode cX6_rest 80 = .ok (.aload_n 0, 1) := by decide +kernel
theorem dX6_rest_81 : decode cX6_rest 81 = .ok (.getfield 23, 3) := by decide +kernel
theorem dX6_rest_84 : decode cX6_rest 84 = .ok (.invokevirtual 95, 3) := by decide +kernel
theorem dX6_rest_87 : decode cX6_rest 87 = .ok (.ireturn, 1) := by decide +kernel
set_option maxRecDepth 20000 in
theorem ggX6_tooMany_X6_tryFirst : GoodIn wsX6_tooMany wsX6_tryFirst := goodIn_r _ [7, 2, 1, 8, 9, 10, 11, 12, 13, 14, 15, 16, 17, 18, 19, 20, 21, 22, 23, 24, 25, 26, 27, 28, 29, 30, 31, 32, 33, 34, 119, 120, 121, 122, 123, 124, 125, 126, 127, 128, 129, 130, 131, 132, 133, 134, 135, 136, 137, 138] (by decide +kernel) (by decide +kernel)
set_option maxRecDepth 20000 in
theorem gX6_tooMany_X6_tryFirst : GoodIn wsX6_tooMany (wsV RX6 191 RX6 yX6_tryFirst wsX6_tryFirst) := goodIn_app (goodIn_of _ (by decide +kernel)) ggX6_tooMany_X6_tryFirst
set_option maxRecDepth 20000 in
theorem ggX6_tooMany_X1_restsHearing : GoodIn wsX6_tooMany wsX1_restsHearing := goodIn_r _ [38, 39, 40, 41, 15, 42, 43, 29, 44, 45, 46, 47, 23, 48, 25, 49, 50, 51, 52, 17, 53, 54, 10, 55, 56, 57, 58, 59, 60, 61, 62, 63, 26, 30, 27, 64, 65, 66, 67, 68, 69, 70, 71, 72, 73, 74, 75, 76, 6, 77, 78, 79, 80, 81, 24, 82, 9, 11, 83, 84, 85, 86, 87, 88, 89, 90, 91, 92, 93, 94, 28, 95, 96, 97, 98, 18, 99, 100, 101, 102, 103, 104, 105, 106, 107, 108, 109, 110, 111, 112, 113, 114, 115, 116, 117, 118, 127, 128, 129, 130, 131, 132, 133, 134, 135, 136, 137, 138] (by decide +kernel) (by decide +kernel)
set_option maxRecDepth 20000 in
theorem gX6_tooMany_X1_restsHearing : GoodIn wsX6_tooMany (wsV RX6 194 RX1 yX1_restsHearing wsX1_restsHearing) := goodIn_app (goodIn_of _ (by decide +kernel)) ggX6_tooMany_X1_restsHearing
theorem dX6_tooMany_0 : decode cX6_tooMany 0 = .ok (.iconst 0, 1) := by decide +kernel
theorem dX6_tooMany_1 : decode cX6_tooMany 1 = .ok (.istore_n 1, 1) := by decide +kernel
theorem dX6_tooMany_2 : decode cX6_tooMany 2 = .ok (.iload_n 1, 1) := by decide +kernel
theorem dX6_tooMany_3 : decode cX6_tooMany 3 = .ok (.aload_n 0, 1) := by decide +kernel
theorem dX6_tooMany_4 : decode cX6_tooMany 4 = .ok (.getfield 19, 3) := by decide +kernel
theorem dX6_tooMany_7 : decode cX6_tooMany 7 = .ok (.getfield 79, 3) := by decide +kernel
theorem dX6_tooMany_10 : decode cX6_tooMany 10 = .ok (.if_icmp .gt 26, 3) := by decide +kernel
theorem dX6_tooMany_13 : decode cX6_tooMany 13 = .ok (.aload_n 0, 1) := by decide +kernel
theorem dX6_tooMany_14 : decode cX6_tooMany 14 = .ok (.iload_n 1, 1) := by decide +kernel
theorem dX6_tooMany_15 : decode cX6_tooMany 15 = .ok (.invokevirtual 191, 3) := by decide +kernel
theorem dX6_tooMany_18 : decode cX6_tooMany 18 = .ok (.aload_n 0, 1) := by decide +kernel
theorem dX6_tooMany_19 : decode cX6_tooMany 19 = .ok (.getfield 23, 3) := by decide +kernel
theorem dX6_tooMany_22 : decode cX6_tooMany 22 = .ok (.invokevirtual 194, 3) := by decide +kernel
theorem dX6_tooMany_25 : decode cX6_tooMany 25 = .ok (.ifCond .ne 5, 3) := by decide +kernel
theorem dX6_tooMany_28 : decode cX6_tooMany 28 = .ok (.iload_n 1, 1) := by decide +kernel
theorem dX6_tooMany_29 : decode cX6_tooMany 29 = .ok (.ireturn, 1) := by decide +kernel
theorem dX6_tooMany_30 : decode cX6_tooMany 30 = .ok (.iinc 1 1, 3) := by decide +kernel
theorem dX6_tooMany_33 : decode cX6_tooMany 33 = .ok (.goto (-31), 3) := by decide +kernel
theorem dX6_tooMany_36 : decode cX6_tooMany 36 = .ok (.bipush (-9), 2) := by decide +kernel
theorem dX6_tooMany_38 : decode cX6_tooMany 38 = .ok (.ireturn, 1) := by decide +kernel
set_option maxRecDepth 20000 in
theorem ggX6_lasts_X1_loudAll : GoodIn wsX6_lasts wsX1_loudAll := goodIn_r _ [7, 8, 9, 10, 11, 6, 12, 13, 14, 15, 99, 100, 101, 102, 103, 104, 105, 106, 107, 108, 109, 110] (by decide +kernel) (by decide +kernel)
set_option maxRecDepth 20000 in
theorem gX6_lasts_X1_loudAll : GoodIn wsX6_lasts (wsV RX6 95 RX1 yX1_loudAll wsX1_loudAll) := goodIn_app (goodIn_of _ (by decide +kernel)) ggX6_lasts_X1_loudAll
set_option maxRecDepth 20000 in
theorem ggX6_lasts_X1_copyFrom : GoodIn wsX6_lasts wsX1_copyFrom := goodIn_r _ [19, 20, 21, 22, 23, 24, 6, 25, 8, 26, 27, 13, 15, 28, 29, 14, 99, 100, 101, 102, 103, 104, 105, 106, 107, 108, 109, 110] (by decide +kernel) (by decide +kernel)
set_option maxRecDepth 20000 in
theorem gX6_lasts_X1_copyFrom : GoodIn wsX6_lasts (wsV RX6 69 RX1 yX1_copyFrom wsX1_copyFrom) := goodIn_app (goodIn_of _ (by decide +kernel)) ggX6_lasts_X1_copyFrom
set_option maxRecDepth 20000 in
theorem ggX6_lasts_X1_speakAll : GoodIn wsX6_lasts wsX1_speakAll := goodIn_r _ [33, 8, 15, 99, 100, 101, 102, 103, 104, 105, 106, 107, 108, 109, 110] (by decide +kernel) (by decide +kernel)
set_option maxRecDepth 20000 in
theorem gX6_lasts_X1_speakAll : GoodIn wsX6_lasts (wsV RX6 182 RX1 yX1_speakAll wsX1_speakAll) := goodIn_app (goodIn_of _ (by decide +kernel)) ggX6_lasts_X1_speakAll
set_option maxRecDepth 20000 in
theorem ggX6_lasts_X1_look : GoodIn wsX6_lasts wsX1_look := goodIn_r _ [37, 8, 38, 27, 39, 40, 41, 42, 6, 43, 20, 44, 45, 46, 47, 48, 4, 5, 7, 9, 10, 11, 12, 13, 14, 15, 49, 50, 51, 52, 29, 53, 54, 55, 56, 57, 58, 59, 60, 61, 62, 63, 64, 65, 66, 67, 26, 68, 69, 70, 71, 72, 73, 74, 75, 76, 77, 78, 79, 80, 81, 82, 28, 83, 84, 85, 86, 21, 99, 100, 101, 102, 103, 104, 105, 106, 107, 108, 109, 110] (by decide +kernel) (by decide +kernel)
set_option maxRecDepth 20000 in
theorem gX6_lasts_X1_look : GoodIn wsX6_lasts (wsV RX6 163 RX1 yX1_look wsX1_look) := goodIn_app (goodIn_of _ (by decide +kernel)) ggX6_lasts_X1_look
set_option maxRecDepth 20000 in
theorem ggX6_lasts_X1_take : GoodIn wsX6_lasts wsX1_take := goodIn_r _ [90, 8, 15, 38, 39, 29, 99, 100, 101, 102, 103, 104, 105, 106, 107, 108, 109, 110] (by decide +kernel) (by decide +kernel)
set_option maxRecDepth 20000 in
theorem gX6_lasts_X1_take : GoodIn wsX6_lasts (wsV RX6 169 RX1 yX1_take wsX1_take) := goodIn_app (goodIn_of _ (by decide +kernel)) ggX6_lasts_X1_take
theorem dX6_lasts_0 : decode cX6_lasts 0 = .ok (.aload_n 0, 1) := by decide +kernel
theorem dX6_lasts_1 : decode cX6_lasts 1 = .ok (.getfield 19, 3) := by decide +kernel
theorem dX6_lasts_4 : decode cX6_lasts 4 = .ok (.invokevirtual 95, 3) := by decide +kernel
theorem dX6_lasts_7 : decode cX6_lasts 7 = .ok (.istore_n 1, 1) := by decide +kernel
theorem dX6_lasts_8 : decode cX6_lasts 8 = .ok (.aload_n 0, 1) := by decide +kernel
theorem dX6_lasts_9 : decode cX6_lasts 9 = .ok (.getfield 23, 3) := by decide +kernel
theorem dX6_lasts_12 : decode cX6_lasts 12 = .ok (.aload_n 0, 1) := by decide +kernel
theorem dX6_lasts_13 : decode cX6_lasts 13 = .ok (.getfield 19, 3) := by decide +kernel
theorem dX6_lasts_16 : decode cX6_lasts 16 = .ok (.invokevirtual 69, 3) := by decide +kernel
theorem dX6_lasts_19 : decode cX6_lasts 19 = .ok (.aload_n 0, 1) := by decide +kernel
theorem dX6_lasts_20 : decode cX6_lasts 20 = .ok (.getfield 23, 3) := by decide +kernel
theorem dX6_lasts_23 : decode cX6_lasts 23 = .ok (.iconst 1, 1) := by decide +kernel
theorem dX6_lasts_24 : decode cX6_lasts 24 = .ok (.invokevirtual 182, 3) := by decide +kernel
theorem dX6_lasts_27 : decode cX6_lasts 27 = .ok (.pop, 1) := by decide +kernel
theorem dX6_lasts_28 : decode cX6_lasts 28 = .ok (.iconst 0, 1) := by decide +kernel
theorem dX6_lasts_29 : decode cX6_lasts 29 = .ok (.istore_n 2, 1) := by decide +kernel
theorem dX6_lasts_30 : decode cX6_lasts 30 = .ok (.iload_n 2, 1) := by decide +kernel
theorem dX6_lasts_31 : decode cX6_lasts 31 = .ok (.bipush 40, 2) := by decide +kernel
theorem dX6_lasts_33 : decode cX6_lasts 33 = .ok (.if_icmp .gt 36, 3) := by decide +kernel
theorem dX6_lasts_36 : decode cX6_lasts 36 = .ok (.aload_n 0, 1) := by decide +kernel
theorem dX6_lasts_37 : decode cX6_lasts 37 = .ok (.getfield 23, 3) := by decide +kernel
theorem dX6_lasts_40 : decode cX6_lasts 40 = .ok (.invokevirtual 95, 3) := by decide +kernel
theorem dX6_lasts_43 : decode cX6_lasts 43 = .ok (.iload_n 1, 1) := by decide +kernel
theorem dX6_lasts_44 : decode cX6_lasts 44 = .ok (.if_icmp .lt 5, 3) := by decide +kernel
theorem dX6_lasts_47 : decode cX6_lasts 47 = .ok (.iload_n 2, 1) := by decide +kernel
theorem dX6_lasts_48 : decode cX6_lasts 48 = .ok (.ireturn, 1) := by decide +kernel
theorem dX6_lasts_49 : decode cX6_lasts 49 = .ok (.aload_n 0, 1) := by decide +kernel
theorem dX6_lasts_50 : decode cX6_lasts 50 = .ok (.getfield 23, 3) := by decide +kernel
theorem dX6_lasts_53 : decode cX6_lasts 53 = .ok (.invokevirtual 163, 3) := by decide +kernel
theorem dX6_lasts_56 : decode cX6_lasts 56 = .ok (.aload_n 0, 1) := by decide +kernel
theorem dX6_lasts_57 : decode cX6_lasts 57 = .ok (.getfield 23, 3) := by decide +kernel
theorem dX6_lasts_60 : decode cX6_lasts 60 = .ok (.invokevirtual 169, 3) := by decide +kernel
theorem dX6_lasts_63 : decode cX6_lasts 63 = .ok (.iinc 2 1, 3) := by decide +kernel
theorem dX6_lasts_66 : decode cX6_lasts 66 = .ok (.goto (-36), 3) := by decide +kernel
theorem dX6_lasts_69 : decode cX6_lasts 69 = .ok (.bipush (-9), 2) := by decide +kernel
theorem dX6_lasts_71 : decode cX6_lasts 71 = .ok (.ireturn, 1) := by decide +kernel
set_option maxRecDepth 20000 in
theorem ggX6_stuffs_X5_costOf : GoodIn wsX6_stuffs wsX5_costOf := goodIn_r _ [12, 13, 14, 15, 16, 11, 17, 18, 136, 137, 138] (by decide +kernel) (by decide +kernel)
set_option maxRecDepth 20000 in
theorem gX6_stuffs_X5_costOf : GoodIn wsX6_stuffs (wsV RX6 198 RX5 yX5_costOf wsX5_costOf) := goodIn_app (goodIn_of _ (by decide +kernel)) ggX6_stuffs_X5_costOf
set_option maxRecDepth 20000 in
theorem ggX6_stuffs_X1_copyFrom : GoodIn wsX6_stuffs wsX1_copyFrom := goodIn_r _ [23, 24, 25, 26, 27, 28, 22, 29, 30, 31, 32, 33, 34, 35, 36, 37, 139, 140, 141, 142, 143, 144, 145, 146, 147, 148, 149, 150] (by decide +kernel) (by decide +kernel)
set_option maxRecDepth 20000 in
theorem gX6_stuffs_X1_copyFrom : GoodIn wsX6_stuffs (wsV RX6 69 RX1 yX1_copyFrom wsX1_copyFrom) := goodIn_app (goodIn_of _ (by decide +kernel)) ggX6_stuffs_X1_copyFrom
set_option maxRecDepth 20000 in
theorem ggX6_stuffs_X5_eatenBy : GoodIn wsX6_stuffs wsX5_eatenBy := goodIn_r _ [41, 42, 14, 15, 16, 11, 17, 18, 136, 137, 138] (by decide +kernel) (by decide +kernel)
set_option maxRecDepth 20000 in
theorem gX6_stuffs_X5_eatenBy : GoodIn wsX6_stuffs (wsV RX6 201 RX5 yX5_eatenBy wsX5_eatenBy) := goodIn_app (goodIn_of _ (by decide +kernel)) ggX6_stuffs_X5_eatenBy
set_option maxRecDepth 20000 in
theorem ggX6_stuffs_X1_restsHearing : GoodIn wsX6_stuffs wsX1_restsHearing := goodIn_r _ [46, 47, 48, 49, 22, 50, 51, 36, 52, 53, 54, 55, 30, 56, 32, 57, 58, 59, 60, 24, 61, 62, 6, 63, 64, 65, 66, 67, 68, 69, 70, 71, 33, 37, 34, 72, 73, 74, 75, 76, 77, 78, 79, 80, 81, 82, 83, 84, 85, 86, 87, 88, 89, 90, 31, 91, 5, 7, 92, 93, 94, 95, 96, 97, 98, 99, 100, 101, 102, 103, 35, 104, 105, 106, 107, 25, 108, 109, 110, 111, 112, 113, 114, 115, 116, 117, 118, 119, 120, 121, 122, 123, 124, 125, 126, 127, 139, 140, 141, 142, 143, 144, 145, 146, 147, 148, 149, 150] (by decide +kernel) (by decide +kernel)
set_option maxRecDepth 20000 in
theorem gX6_stuffs_X1_restsHearing : GoodIn wsX6_stuffs (wsV RX6 194 RX1 yX1_restsHearing wsX1_restsHearing) := goodIn_app (goodIn_of _ (by decide +kernel)) ggX6_stuffs_X1_restsHearing
theorem dX6_stuffs_0 : decode cX6_stuffs 0 = .ok (.bipush (-9), 2) := by decide +kernel
theorem dX6_stuffs_2 : decode cX6_stuffs 2 = .ok (.istore_n 2, 1) := by decide +kernel
theorem dX6_stuffs_3 : decode cX6_stuffs 3 = .ok (.bipush (-9), 2) := by decide +kernel
theorem dX6_stuffs_5 : decode cX6_stuffs 5 = .ok (.istore_n 3, 1) := by decide +kernel
theorem dX6_stuffs_6 : decode cX6_stuffs 6 = .ok (.iconst 0, 1) := by decide +kernel
theorem dX6_stuffs_7 : decode cX6_stuffs 7 = .ok (.istore 4, 2) := by decide +kernel
theorem dX6_stuffs_9 : decode cX6_stuffs 9 = .ok (.iload 4, 2) := by decide +kernel
theorem dX6_stuffs_11 : decode cX6_stuffs 11 = .ok (.iconst 1, 1) := by decide +kernel
theorem dX6_stuffs_12 : decode cX6_stuffs 12 = .ok (.aload_n 0, 1) := by decide +kernel
theorem dX6_stuffs_13 : decode cX6_stuffs 13 = .ok (.getfield 29, 3) := by decide +kernel
theorem dX6_stuffs_16 : decode cX6_stuffs 16 = .ok (.getfield 101, 3) := by decide +kernel
theorem dX6_stuffs_19 : decode cX6_stuffs 19 = .ok (.ishl, 1) := by decide +kernel
theorem dX6_stuffs_20 : decode cX6_stuffs 20 = .ok (.if_icmp .ge 88, 3) := by decide +kernel
theorem dX6_stuffs_23 : decode cX6_stuffs 23 = .ok (.aload_n 0, 1) := by decide +kernel
theorem dX6_stuffs_24 : decode cX6_stuffs 24 = .ok (.getfield 29, 3) := by decide +kernel
theorem dX6_stuffs_27 : decode cX6_stuffs 27 = .ok (.iload 4, 2) := by decide +kernel
theorem dX6_stuffs_29 : decode cX6_stuffs 29 = .ok (.invokevirtual 198, 3) := by decide +kernel
theorem dX6_stuffs_32 : decode cX6_stuffs 32 = .ok (.istore 5, 2) := by decide +kernel
theorem dX6_stuffs_34 : decode cX6_stuffs 34 = .ok (.iload_n 2, 1) := by decide +kernel
theorem dX6_stuffs_35 : decode cX6_stuffs 35 = .ok (.bipush (-9), 2) := by decide +kernel
theorem dX6_stuffs_37 : decode cX6_stuffs 37 = .ok (.if_icmp .eq 9, 3) := by decide +kernel
theorem dX6_stuffs_40 : decode cX6_stuffs 40 = .ok (.iload 5, 2) := by decide +kernel
theorem dX6_stuffs_42 : decode cX6_stuffs 42 = .ok (.iload_n 3, 1) := by decide +kernel
theorem dX6_stuffs_43 : decode cX6_stuffs 43 = .ok (.if_icmp .ge 59, 3) := by decide +kernel
theorem dX6_stuffs_46 : decode cX6_stuffs 46 = .ok (.aload_n 0, 1) := by decide +kernel
theorem dX6_stuffs_47 : decode cX6_stuffs 47 = .ok (.getfield 23, 3) := by decide +kernel
theorem dX6_stuffs_50 : decode cX6_stuffs 50 = .ok (.aload_n 0, 1) := by decide +kernel
theorem dX6_stuffs_51 : decode cX6_stuffs 51 = .ok (.getfield 19, 3) := by decide +kernel
theorem dX6_stuffs_54 : decode cX6_stuffs 54 = .ok (.invokevirtual 69, 3) := by decide +kernel
theorem dX6_stuffs_57 : decode cX6_stuffs 57 = .ok (.aload_n 0, 1) := by decide +kernel
theorem dX6_stuffs_58 : decode cX6_stuffs 58 = .ok (.getfield 23, 3) := by decide +kernel
theorem dX6_stuffs_61 : decode cX6_stuffs 61 = .ok (.bipush 9, 2) := by decide +kernel
theorem dX6_stuffs_63 : decode cX6_stuffs 63 = .ok (.aload_n 0, 1) := by decide +kernel
theorem dX6_stuffs_64 : decode cX6_stuffs 64 = .ok (.getfield 19, 3) := by decide +kernel
theorem dX6_stuffs_67 : decode cX6_stuffs 67 = .ok (.getfield 86, 3) := by decide +kernel
theorem dX6_stuffs_70 : decode cX6_stuffs 70 = .ok (.aload_n 0, 1) := by decide +kernel
theorem dX6_stuffs_71 : decode cX6_stuffs 71 = .ok (.getfield 29, 3) := by decide +kernel
theorem dX6_stuffs_74 : decode cX6_stuffs 74 = .ok (.iload 4, 2) := by decide +kernel
theorem dX6_stuffs_76 : decode cX6_stuffs 76 = .ok (.invokevirtual 201, 3) := by decide +kernel
theorem dX6_stuffs_79 : decode cX6_stuffs 79 = .ok (.iadd, 1) := by decide +kernel
theorem dX6_stuffs_80 : decode cX6_stuffs 80 = .ok (.invokestatic 204, 3) := by decide +kernel
theorem dX6_stuffs_83 : decode cX6_stuffs 83 = .ok (.putfield 86, 3) := by decide +kernel
theorem dX6_stuffs_86 : decode cX6_stuffs 86 = .ok (.aload_n 0, 1) := by decide +kernel
theorem dX6_stuffs_87 : decode cX6_stuffs 87 = .ok (.getfield 23, 3) := by decide +kernel
theorem dX6_stuffs_90 : decode cX6_stuffs 90 = .ok (.invokevirtual 194, 3) := by decide +kernel
theorem dX6_stuffs_93 : decode cX6_stuffs 93 = .ok (.ifCond .eq 9, 3) := by decide +kernel
theorem dX6_stuffs_96 : decode cX6_stuffs 96 = .ok (.iload 4, 2) := by decide +kernel
theorem dX6_stuffs_98 : decode cX6_stuffs 98 = .ok (.istore_n 2, 1) := by decide +kernel
theorem dX6_stuffs_99 : decode cX6_stuffs 99 = .ok (.iload 5, 2) := by decide +kernel
theorem dX6_stuffs_101 : decode cX6_stuffs 101 = .ok (.istore_n 3, 1) := by decide +kernel
theorem dX6_stuffs_102 : decode cX6_stuffs 102 = .ok (.iinc 4 1, 3) := by decide +kernel
theorem dX6_stuffs_105 : decode cX6_stuffs 105 = .ok (.goto (-96), 3) := by decide +kernel
theorem dX6_stuffs_108 : decode cX6_stuffs 108 = .ok (.iload_n 1, 1) := by decide +kernel
theorem dX6_stuffs_109 : decode cX6_stuffs 109 = .ok (.ifCond .eq 7, 3) := by decide +kernel
theorem dX6_stuffs_112 : decode cX6_stuffs 112 = .ok (.iload_n 2, 1) := by decide +kernel
theorem dX6_stuffs_113 : decode cX6_stuffs 113 = .ok (.goto 4, 3) := by decide +kernel
theorem dX6_stuffs_116 : decode cX6_stuffs 116 = .ok (.iload_n 3, 1) := by decide +kernel
theorem dX6_stuffs_117 : decode cX6_stuffs 117 = .ok (.ireturn, 1) := by decide +kernel
set_option maxRecDepth 20000 in
theorem ggX6_loudest_X1_copyFrom : GoodIn wsX6_loudest wsX1_copyFrom := goodIn_r _ [7, 8, 9, 10, 11, 12, 6, 13, 14, 15, 16, 17, 18, 19, 20, 21, 118, 119, 120, 121, 122, 123, 124, 125, 126, 127, 128, 129] (by decide +kernel) (by decide +kernel)
set_option maxRecDepth 20000 in
theorem gX6_loudest_X1_copyFrom : GoodIn wsX6_loudest (wsV RX6 69 RX1 yX1_copyFrom wsX1_copyFrom) := goodIn_app (goodIn_of _ (by decide +kernel)) ggX6_loudest_X1_copyFrom
set_option maxRecDepth 20000 in
theorem ggX6_loudest_X1_restsHearing : GoodIn wsX6_loudest wsX1_restsHearing := goodIn_r _ [25, 26, 27, 28, 6, 29, 30, 20, 31, 32, 33, 34, 14, 35, 16, 36, 37, 38, 39, 8, 40, 41, 42, 43, 44, 45, 46, 47, 48, 49, 50, 51, 17, 21, 18, 52, 53, 54, 55, 56, 57, 58, 59, 60, 61, 62, 63, 64, 65, 66, 67, 68, 69, 70, 15, 71, 72, 73, 74, 75, 76, 77, 78, 79, 80, 81, 82, 83, 84, 85, 19, 86, 87, 88, 89, 9, 90, 91, 92, 93, 94, 95, 96, 97, 98, 99, 100, 101, 102, 103, 104, 105, 106, 107, 108, 109, 118, 119, 120, 121, 122, 123, 124, 125, 126, 127, 128, 129] (by decide +kernel) (by decide +kernel)
set_option maxRecDepth 20000 in
theorem gX6_loudest_X1_restsHearing : GoodIn wsX6_loudest (wsV RX6 194 RX1 yX1_restsHearing wsX1_restsHearing) := goodIn_app (goodIn_of _ (by decide +kernel)) ggX6_loudest_X1_restsHearing
theorem dX6_loudest_0 : decode cX6_loudest 0 = .ok (.bipush 9, 2) := by decide +kernel
theorem dX6_loudest_2 : decode cX6_loudest 2 = .ok (.istore_n 1, 1) := by decide +kernel
theorem dX6_loudest_3 : decode cX6_loudest 3 = .ok (.iload_n 1, 1) := by decide +kernel
theorem dX6_loudest_4 : decode cX6_loudest 4 = .ok (.ifCond .lt 48, 3) := by decide +kernel
theorem dX6_loudest_7 : decode cX6_loudest 7 = .ok (.aload_n 0, 1) := by decide +kernel
theorem dX6_loudest_8 : decode cX6_loudest 8 = .ok (.getfield 23, 3) := by decide +kernel
theorem dX6_loudest_11 : decode cX6_loudest 11 = .ok (.aload_n 0, 1) := by decide +kernel
theorem dX6_loudest_12 : decode cX6_loudest 12 = .ok (.getfield 19, 3) := by decide +kernel
theorem dX6_loudest_15 : decode cX6_loudest 15 = .ok (.invokevirtual 69, 3) := by decide +kernel
theorem dX6_loudest_18 : decode cX6_loudest 18 = .ok (.aload_n 0, 1) := by decide +kernel
theorem dX6_loudest_19 : decode cX6_loudest 19 = .ok (.getfield 23, 3) := by decide +kernel
theorem dX6_loudest_22 : decode cX6_loudest 22 = .ok (.iload_n 1, 1) := by decide +kernel
theorem dX6_loudest_23 : decode cX6_loudest 23 = .ok (.putfield 89, 3) := by decide +kernel
theorem dX6_loudest_26 : decode cX6_loudest 26 = .ok (.aload_n 0, 1) := by decide +kernel
theorem dX6_loudest_27 : decode cX6_loudest 27 = .ok (.getfield 23, 3) := by decide +kernel
theorem dX6_loudest_30 : decode cX6_loudest 30 = .ok (.iconst 0, 1) := by decide +kernel
theorem dX6_loudest_31 : decode cX6_loudest 31 = .ok (.putfield 156, 3) := by decide +kernel
theorem dX6_loudest_34 : decode cX6_loudest 34 = .ok (.aload_n 0, 1) := by decide +kernel
theorem dX6_loudest_35 : decode cX6_loudest 35 = .ok (.getfield 23, 3) := by decide +kernel
theorem dX6_loudest_38 : decode cX6_loudest 38 = .ok (.invokevirtual 194, 3) := by decide +kernel
theorem dX6_loudest_41 : decode cX6_loudest 41 = .ok (.ifCond .eq 5, 3) := by decide +kernel
theorem dX6_loudest_44 : decode cX6_loudest 44 = .ok (.iload_n 1, 1) := by decide +kernel
theorem dX6_loudest_45 : decode cX6_loudest 45 = .ok (.ireturn, 1) := by decide +kernel
theorem dX6_loudest_46 : decode cX6_loudest 46 = .ok (.iinc 1 (-1), 3) := by decide +kernel
theorem dX6_loudest_49 : decode cX6_loudest 49 = .ok (.goto (-46), 3) := by decide +kernel
theorem dX6_loudest_52 : decode cX6_loudest 52 = .ok (.bipush (-9), 2) := by decide +kernel
theorem dX6_loudest_54 : decode cX6_loudest 54 = .ok (.ireturn, 1) := by decide +kernel
set_option maxRecDepth 20000 in
theorem ggX6_softer_X1_copyFrom : GoodIn wsX6_softer wsX1_copyFrom := goodIn_r _ [7, 8, 9, 10, 11, 12, 6, 13, 14, 15, 16, 17, 18, 19, 20, 21, 89, 90, 91, 92, 93, 94, 95, 96, 97, 98, 99, 100] (by decide +kernel) (by decide +kernel)
set_option maxRecDepth 20000 in
theorem gX6_softer_X1_copyFrom : GoodIn wsX6_softer (wsV RX6 69 RX1 yX1_copyFrom wsX1_copyFrom) := goodIn_app (goodIn_of _ (by decide +kernel)) ggX6_softer_X1_copyFrom
set_option maxRecDepth 20000 in
theorem ggX6_softer_X1_speakAll : GoodIn wsX6_softer wsX1_speakAll := goodIn_r _ [25, 14, 18, 89, 90, 91, 92, 93, 94, 95, 96, 97, 98, 99, 100] (by decide +kernel) (by decide +kernel)
set_option maxRecDepth 20000 in
theorem gX6_softer_X1_speakAll : GoodIn wsX6_softer (wsV RX6 182 RX1 yX1_speakAll wsX1_speakAll) := goodIn_app (goodIn_of _ (by decide +kernel)) ggX6_softer_X1_speakAll
set_option maxRecDepth 20000 in
theorem ggX6_softer_X1_allHear : GoodIn wsX6_softer wsX1_allHear := goodIn_r _ [29, 14, 30, 31, 32, 6, 33, 16, 34, 35, 36, 37, 15, 17, 38, 39, 40, 41, 21, 18, 42, 43, 44, 45, 46, 47, 48, 49, 50, 51, 52, 53, 54, 55, 56, 57, 8, 58, 59, 60, 61, 62, 63, 64, 65, 20, 66, 67, 68, 69, 70, 71, 72, 73, 74, 75, 76, 77, 78, 79, 80, 19, 89, 90, 91, 92, 93, 94, 95, 96, 97, 98, 99, 100] (by decide +kernel) (by decide +kernel)
set_option maxRecDepth 20000 in
theorem gX6_softer_X1_allHear : GoodIn wsX6_softer (wsV RX6 209 RX1 yX1_allHear wsX1_allHear) := goodIn_app (goodIn_of _ (by decide +kernel)) ggX6_softer_X1_allHear
theorem dX6_softer_0 : decode cX6_softer 0 = .ok (.aload_n 0, 1) := by decide +kernel
theorem dX6_softer_1 : decode cX6_softer 1 = .ok (.getfield 23, 3) := by decide +kernel
theorem dX6_softer_4 : decode cX6_softer 4 = .ok (.aload_n 0, 1) := by decide +kernel
theorem dX6_softer_5 : decode cX6_softer 5 = .ok (.getfield 19, 3) := by decide +kernel
theorem dX6_softer_8 : decode cX6_softer 8 = .ok (.invokevirtual 69, 3) := by decide +kernel
theorem dX6_softer_11 : decode cX6_softer 11 = .ok (.iconst 1, 1) := by decide +kernel
theorem dX6_softer_12 : decode cX6_softer 12 = .ok (.istore_n 1, 1) := by decide +kernel
theorem dX6_softer_13 : decode cX6_softer 13 = .ok (.iload_n 1, 1) := by decide +kernel
theorem dX6_softer_14 : decode cX6_softer 14 = .ok (.bipush 9, 2) := by decide +kernel
theorem dX6_softer_16 : decode cX6_softer 16 = .ok (.if_icmp .gt 30, 3) := by decide +kernel
theorem dX6_softer_19 : decode cX6_softer 19 = .ok (.aload_n 0, 1) := by decide +kernel
theorem dX6_softer_20 : decode cX6_softer 20 = .ok (.getfield 23, 3) := by decide +kernel
theorem dX6_softer_23 : decode cX6_softer 23 = .ok (.iload_n 1, 1) := by decide +kernel
theorem dX6_softer_24 : decode cX6_softer 24 = .ok (.invokevirtual 182, 3) := by decide +kernel
theorem dX6_softer_27 : decode cX6_softer 27 = .ok (.pop, 1) := by decide +kernel
theorem dX6_softer_28 : decode cX6_softer 28 = .ok (.aload_n 0, 1) := by decide +kernel
theorem dX6_softer_29 : decode cX6_softer 29 = .ok (.getfield 23, 3) := by decide +kernel
theorem dX6_softer_32 : decode cX6_softer 32 = .ok (.invokevirtual 209, 3) := by decide +kernel
theorem dX6_softer_35 : decode cX6_softer 35 = .ok (.ifCond .eq 5, 3) := by decide +kernel
theorem dX6_softer_38 : decode cX6_softer 38 = .ok (.iload_n 1, 1) := by decide +kernel
theorem dX6_softer_39 : decode cX6_softer 39 = .ok (.ireturn, 1) := by decide +kernel
theorem dX6_softer_40 : decode cX6_softer 40 = .ok (.iinc 1 1, 3) := by decide +kernel
theorem dX6_softer_43 : decode cX6_softer 43 = .ok (.goto (-30), 3) := by decide +kernel
theorem dX6_softer_46 : decode cX6_softer 46 = .ok (.bipush (-9), 2) := by decide +kernel
theorem dX6_softer_48 : decode cX6_softer 48 = .ok (.ireturn, 1) := by decide +kernel
set_option maxRecDepth 20000 in
theorem ggX6_overhears_X1_has : GoodIn wsX6_overhears wsX1_has := goodIn_r _ [6, 7, 58, 59, 60, 61, 62, 63, 64, 65, 66, 67, 68, 69] (by decide +kernel) (by decide +kernel)
set_option maxRecDepth 20000 in
theorem gX6_overhears_X1_has : GoodIn wsX6_overhears (wsV RX6 109 RX1 yX1_has wsX1_has) := goodIn_app (goodIn_of _ (by decide +kernel)) ggX6_overhears_X1_has
set_option maxRecDepth 20000 in
theorem ggX6_overhears_X1_noiseAt : GoodIn wsX6_overhears wsX1_noiseAt := goodIn_r _ [11, 12, 13, 14, 5, 15, 16, 17, 18, 19, 20, 21, 22, 23, 24, 7, 25, 26, 27, 28, 29, 30, 31, 32, 33, 34, 35, 36, 37, 38, 39, 40, 41, 42, 43, 44, 45, 46, 47, 48, 58, 59, 60, 61, 62, 63, 64, 65, 66, 67, 68, 69] (by decide +kernel) (by decide +kernel)
set_option maxRecDepth 20000 in
theorem gX6_overhears_X1_noiseAt : GoodIn wsX6_overhears (wsV RX6 137 RX1 yX1_noiseAt wsX1_noiseAt) := goodIn_app (goodIn_of _ (by decide +kernel)) ggX6_overhears_X1_noiseAt
set_option maxRecDepth 20000 in
theorem ggX6_overhears_X1_fromRing : GoodIn wsX6_overhears wsX1_fromRing := goodIn_r _ [44, 45, 46, 47, 48, 25, 26, 27, 5, 28, 29, 30, 31, 58, 59, 60, 61, 62, 63, 64, 65, 66, 67, 68, 69] (by decide +kernel) (by decide +kernel)
set_option maxRecDepth 20000 in
theorem gX6_overhears_X1_fromRing : GoodIn wsX6_overhears (wsV RX6 153 RX1 yX1_fromRing wsX1_fromRing) := goodIn_app (goodIn_of _ (by decide +kernel)) ggX6_overhears_X1_fromRing
theorem dX6_overhears_0 : decode cX6_overhears 0 = .ok (.aload_n 0, 1) := by decide +kernel
theorem dX6_overhears_1 : decode cX6_overhears 1 = .ok (.getfield 19, 3) := by decide +kernel
theorem dX6_overhears_4 : decode cX6_overhears 4 = .ok (.iload_n 1, 1) := by decide +kernel
theorem dX6_overhears_5 : decode cX6_overhears 5 = .ok (.invokevirtual 109, 3) := by decide +kernel
theorem dX6_overhears_8 : decode cX6_overhears 8 = .ok (.ifCond .ne 5, 3) := by decide +kernel
theorem dX6_overhears_11 : decode cX6_overhears 11 = .ok (.iconst (-1), 1) := by decide +kernel
theorem dX6_overhears_12 : decode cX6_overhears 12 = .ok (.ireturn, 1) := by decide +kernel
theorem dX6_overhears_13 : decode cX6_overhears 13 = .ok (.aload_n 0, 1) := by decide +kernel
theorem dX6_overhears_14 : decode cX6_overhears 14 = .ok (.getfield 19, 3) := by decide +kernel
theorem dX6_overhears_17 : decode cX6_overhears 17 = .ok (.getfield 117, 3) := by decide +kernel
theorem dX6_overhears_20 : decode cX6_overhears 20 = .ok (.iload_n 1, 1) := by decide +kernel
theorem dX6_overhears_21 : decode cX6_overhears 21 = .ok (.iaload, 1) := by decide +kernel
theorem dX6_overhears_22 : decode cX6_overhears 22 = .ok (.istore_n 2, 1) := by decide +kernel
theorem dX6_overhears_23 : decode cX6_overhears 23 = .ok (.aload_n 0, 1) := by decide +kernel
theorem dX6_overhears_24 : decode cX6_overhears 24 = .ok (.getfield 19, 3) := by decide +kernel
theorem dX6_overhears_27 : decode cX6_overhears 27 = .ok (.iload_n 2, 1) := by decide +kernel
theorem dX6_overhears_28 : decode cX6_overhears 28 = .ok (.invokevirtual 137, 3) := by decide +kernel
theorem dX6_overhears_31 : decode cX6_overhears 31 = .ok (.istore_n 3, 1) := by decide +kernel
theorem dX6_overhears_32 : decode cX6_overhears 32 = .ok (.iconst 0, 1) := by decide +kernel
theorem dX6_overhears_33 : decode cX6_overhears 33 = .ok (.istore 4, 2) := by decide +kernel
theorem dX6_overhears_35 : decode cX6_overhears 35 = .ok (.iconst 0, 1) := by decide +kernel
theorem dX6_overhears_36 : decode cX6_overhears 36 = .ok (.istore 5, 2) := by decide +kernel
theorem dX6_overhears_38 : decode cX6_overhears 38 = .ok (.iload 5, 2) := by decide +kernel
theorem dX6_overhears_40 : decode cX6_overhears 40 = .ok (.aload_n 0, 1) := by decide +kernel
theorem dX6_overhears_41 : decode cX6_overhears 41 = .ok (.getfield 19, 3) := by decide +kernel
theorem dX6_overhears_44 : decode cX6_overhears 44 = .ok (.getfield 79, 3) := by decide +kernel
theorem dX6_overhears_47 : decode cX6_overhears 47 = .ok (.if_icmp .ge 45, 3) := by decide +kernel
theorem dX6_overhears_50 : decode cX6_overhears 50 = .ok (.aload_n 0, 1) := by decide +kernel
theorem dX6_overhears_51 : decode cX6_overhears 51 = .ok (.getfield 19, 3) := by decide +kernel
theorem dX6_overhears_54 : decode cX6_overhears 54 = .ok (.iload 5, 2) := by decide +kernel
theorem dX6_overhears_56 : decode cX6_overhears 56 = .ok (.iload_n 2, 1) := by decide +kernel
theorem dX6_overhears_57 : decode cX6_overhears 57 = .ok (.invokevirtual 153, 3) := by decide +kernel
theorem dX6_overhears_60 : decode cX6_overhears 60 = .ok (.istore 6, 2) := by decide +kernel
theorem dX6_overhears_62 : decode cX6_overhears 62 = .ok (.iload 6, 2) := by decide +kernel
theorem dX6_overhears_64 : decode cX6_overhears 64 = .ok (.iconst 1, 1) := by decide +kernel
theorem dX6_overhears_65 : decode cX6_overhears 65 = .ok (.if_icmp .lt 21, 3) := by decide +kernel
theorem dX6_overhears_68 : decode cX6_overhears 68 = .ok (.iload 6, 2) := by decide +kernel
theorem dX6_overhears_70 : decode cX6_overhears 70 = .ok (.iload_n 3, 1) := by decide +kernel
theorem dX6_overhears_71 : decode cX6_overhears 71 = .ok (.iload 6, 2) := by decide +kernel
theorem dX6_overhears_73 : decode cX6_overhears 73 = .ok (.isub, 1) := by decide +kernel
theorem dX6_overhears_74 : decode cX6_overhears 74 = .ok (.if_icmp .lt 12, 3) := by decide +kernel
theorem dX6_overhears_77 : decode cX6_overhears 77 = .ok (.iload 4, 2) := by decide +kernel
theorem dX6_overhears_79 : decode cX6_overhears 79 = .ok (.iconst 1, 1) := by decide +kernel
theorem dX6_overhears_80 : decode cX6_overhears 80 = .ok (.iload 5, 2) := by decide +kernel
theorem dX6_overhears_82 : decode cX6_overhears 82 = .ok (.ishl, 1) := by decide +kernel
theorem dX6_overhears_83 : decode cX6_overhears 83 = .ok (.ior, 1) := by decide +kernel
theorem dX6_overhears_84 : decode cX6_overhears 84 = .ok (.istore 4, 2) := by decide +kernel
theorem dX6_overhears_86 : decode cX6_overhears 86 = .ok (.iinc 5 1, 3) := by decide +kernel
theorem dX6_overhears_89 : decode cX6_overhears 89 = .ok (.goto (-51), 3) := by decide +kernel
theorem dX6_overhears_92 : decode cX6_overhears 92 = .ok (.iload 4, 2) := by decide +kernel
theorem dX6_overhears_94 : decode cX6_overhears 94 = .ok (.ireturn, 1) := by decide +kernel
set_option maxRecDepth 20000 in
theorem ggX6_quietest_X1_ringIn : GoodIn wsX6_quietest wsX1_ringIn := goodIn_r _ [6, 7, 8, 57, 58, 59, 60, 61, 62, 63, 64, 65, 66, 67, 68] (by decide +kernel) (by decide +kernel)
set_option maxRecDepth 20000 in
theorem gX6_quietest_X1_ringIn : GoodIn wsX6_quietest (wsV RX6 212 RX1 yX1_ringIn wsX1_ringIn) := goodIn_app (goodIn_of _ (by decide +kernel)) ggX6_quietest_X1_ringIn
set_option maxRecDepth 20000 in
theorem ggX6_quietest_X1_noiseAt : GoodIn wsX6_quietest wsX1_noiseAt := goodIn_r _ [12, 13, 14, 15, 5, 16, 17, 18, 19, 20, 21, 22, 23, 24, 25, 7, 26, 27, 28, 29, 30, 31, 32, 33, 34, 35, 36, 37, 38, 39, 40, 41, 42, 43, 44, 45, 8, 46, 47, 48, 57, 58, 59, 60, 61, 62, 63, 64, 65, 66, 67, 68] (by decide +kernel) (by decide +kernel)
set_option maxRecDepth 20000 in
theorem gX6_quietest_X1_noiseAt : GoodIn wsX6_quietest (wsV RX6 137 RX1 yX1_noiseAt wsX1_noiseAt) := goodIn_app (goodIn_of _ (by decide +kernel)) ggX6_quietest_X1_noiseAt
theorem dX6_quietest_0 : decode cX6_quietest 0 = .ok (.bipush (-9), 2) := by decide +kernel
theorem dX6_quietest_2 : decode cX6_quietest 2 = .ok (.istore_n 1, 1) := by decide +kernel
theorem dX6_quietest_3 : decode cX6_quietest 3 = .ok (.iconst 0, 1) := by decide +kernel
theorem dX6_quietest_4 : decode cX6_quietest 4 = .ok (.istore_n 2, 1) := by decide +kernel
theorem dX6_quietest_5 : decode cX6_quietest 5 = .ok (.iconst 0, 1) := by decide +kernel
theorem dX6_quietest_6 : decode cX6_quietest 6 = .ok (.istore_n 3, 1) := by decide +kernel
theorem dX6_quietest_7 : decode cX6_quietest 7 = .ok (.iload_n 3, 1) := by decide +kernel
theorem dX6_quietest_8 : decode cX6_quietest 8 = .ok (.bipush 100, 2) := by decide +kernel
theorem dX6_quietest_10 : decode cX6_quietest 10 = .ok (.if_icmp .ge 49, 3) := by decide +kernel
theorem dX6_quietest_13 : decode cX6_quietest 13 = .ok (.aload_n 0, 1) := by decide +kernel
theorem dX6_quietest_14 : decode cX6_quietest 14 = .ok (.getfield 19, 3) := by decide +kernel
theorem dX6_quietest_17 : decode cX6_quietest 17 = .ok (.iload_n 3, 1) := by decide +kernel
theorem dX6_quietest_18 : decode cX6_quietest 18 = .ok (.invokevirtual 212, 3) := by decide +kernel
theorem dX6_quietest_21 : decode cX6_quietest 21 = .ok (.bipush (-9), 2) := by decide +kernel
theorem dX6_quietest_23 : decode cX6_quietest 23 = .ok (.if_icmp .ne 30, 3) := by decide +kernel
theorem dX6_quietest_26 : decode cX6_quietest 26 = .ok (.aload_n 0, 1) := by decide +kernel
theorem dX6_quietest_27 : decode cX6_quietest 27 = .ok (.getfield 19, 3) := by decide +kernel
theorem dX6_quietest_30 : decode cX6_quietest 30 = .ok (.iload_n 3, 1) := by decide +kernel
theorem dX6_quietest_31 : decode cX6_quietest 31 = .ok (.invokevirtual 137, 3) := by decide +kernel
theorem dX6_quietest_34 : decode cX6_quietest 34 = .ok (.istore 4, 2) := by decide +kernel
theorem dX6_quietest_36 : decode cX6_quietest 36 = .ok (.iload_n 1, 1) := by decide +kernel
theorem dX6_quietest_37 : decode cX6_quietest 37 = .ok (.bipush (-9), 2) := by decide +kernel
theorem dX6_quietest_39 : decode cX6_quietest 39 = .ok (.if_icmp .eq 9, 3) := by decide +kernel
theorem dX6_quietest_42 : decode cX6_quietest 42 = .ok (.iload 4, 2) := by decide +kernel
theorem dX6_quietest_44 : decode cX6_quietest 44 = .ok (.iload_n 2, 1) := by decide +kernel
theorem dX6_quietest_45 : decode cX6_quietest 45 = .ok (.if_icmp .ge 8, 3) := by decide +kernel
theorem dX6_quietest_48 : decode cX6_quietest 48 = .ok (.iload_n 3, 1) := by decide +kernel
theorem dX6_quietest_49 : decode cX6_quietest 49 = .ok (.istore_n 1, 1) := by decide +kernel
theorem dX6_quietest_50 : decode cX6_quietest 50 = .ok (.iload 4, 2) := by decide +kernel
theorem dX6_quietest_52 : decode cX6_quietest 52 = .ok (.istore_n 2, 1) := by decide +kernel
theorem dX6_quietest_53 : decode cX6_quietest 53 = .ok (.iinc 3 1, 3) := by decide +kernel
theorem dX6_quietest_56 : decode cX6_quietest 56 = .ok (.goto (-49), 3) := by decide +kernel
theorem dX6_quietest_59 : decode cX6_quietest 59 = .ok (.iload_n 1, 1) := by decide +kernel
theorem dX6_quietest_60 : decode cX6_quietest 60 = .ok (.ireturn, 1) := by decide +kernel
set_option maxRecDepth 20000 in
theorem ggX6_tables_X6_isTables : GoodIn wsX6_tables wsX6_isTables := goodIn_r _ [4] (by decide +kernel) (by decide +kernel)
set_option maxRecDepth 20000 in
theorem gX6_tables_X6_isTables : GoodIn wsX6_tables (va_wsS RX6 215 yX6_isTables wsX6_isTables) := goodIn_app (goodIn_of _ (by decide +kernel)) ggX6_tables_X6_isTables
set_option maxRecDepth 20000 in
theorem ggX6_tables_X6_bestTables : GoodIn wsX6_tables wsX6_bestTables := goodIn_r _ [8, 9, 10, 11, 12, 13, 14, 15, 16, 17, 18, 3, 19, 20, 21, 22, 23, 24, 25, 26, 27, 28, 29, 30, 31, 32, 33, 34, 35, 36, 37, 38, 39, 40, 41, 42, 43, 44, 45, 46, 47, 48, 49, 50, 51, 52, 53, 54, 55, 56, 57, 58, 59, 60] (by decide +kernel) (by decide +kernel)
set_option maxRecDepth 20000 in
theorem gX6_tables_X6_bestTables : GoodIn wsX6_tables (wsV RX6 218 RX6 yX6_bestTables wsX6_bestTables) := goodIn_app (goodIn_of _ (by decide +kernel)) ggX6_tables_X6_bestTables
set_option maxRecDepth 20000 in
theorem ggX6_tables_X6_leastSquare : GoodIn wsX6_tables wsX6_leastSquare := goodIn_r _ [19, 20, 21, 22, 23, 24, 25, 26, 3, 27, 28, 29, 30, 31, 32, 33, 34, 35, 36, 37, 38, 39, 40, 41, 42, 43, 44, 45, 46, 47, 48, 49, 50, 51, 52, 53, 54, 55, 56, 57, 58, 59, 60] (by decide +kernel) (by decide +kernel)
set_option maxRecDepth 20000 in
theorem gX6_tables_X6_leastSquare : GoodIn wsX6_tables (wsV RX6 222 RX6 yX6_leastSquare wsX6_leastSquare) := goodIn_app (goodIn_of _ (by decide +kernel)) ggX6_tables_X6_leastSquare
theorem dX6_tables_0 : decode cX6_tables 0 = .ok (.iload_n 1, 1) := by decide +kernel
theorem dX6_tables_1 : decode cX6_tables 1 = .ok (.iload_n 3, 1) := by decide +kernel
theorem dX6_tables_2 : decode cX6_tables 2 = .ok (.invokestatic 215, 3) := by decide +kernel
theorem dX6_tables_5 : decode cX6_tables 5 = .ok (.ifCond .ne 6, 3) := by decide +kernel
theorem dX6_tables_8 : decode cX6_tables 8 = .ok (.bipush (-2), 2) := by decide +kernel
theorem dX6_tables_10 : decode cX6_tables 10 = .ok (.ireturn, 1) := by decide +kernel
theorem dX6_tables_11 : decode cX6_tables 11 = .ok (.aload_n 0, 1) := by decide +kernel
theorem dX6_tables_12 : decode cX6_tables 12 = .ok (.iload_n 1, 1) := by decide +kernel
theorem dX6_tables_13 : decode cX6_tables 13 = .ok (.iload_n 2, 1) := by decide +kernel
theorem dX6_tables_14 : decode cX6_tables 14 = .ok (.iload_n 3, 1) := by decide +kernel
theorem dX6_tables_15 : decode cX6_tables 15 = .ok (.invokevirtual 218, 3) := by decide +kernel
theorem dX6_tables_18 : decode cX6_tables 18 = .ok (.istore 4, 2) := by decide +kernel
theorem dX6_tables_20 : decode cX6_tables 20 = .ok (.iload 4, 2) := by decide +kernel
theorem dX6_tables_22 : decode cX6_tables 22 = .ok (.ifCond .ne 8, 3) := by decide +kernel
theorem dX6_tables_25 : decode cX6_tables 25 = .ok (.bipush (-9), 2) := by decide +kernel
theorem dX6_tables_27 : decode cX6_tables 27 = .ok (.goto 11, 3) := by decide +kernel
theorem dX6_tables_30 : decode cX6_tables 30 = .ok (.aload_n 0, 1) := by decide +kernel
theorem dX6_tables_31 : decode cX6_tables 31 = .ok (.iload 4, 2) := by decide +kernel
theorem dX6_tables_33 : decode cX6_tables 33 = .ok (.iload_n 2, 1) := by decide +kernel
theorem dX6_tables_34 : decode cX6_tables 34 = .ok (.iload_n 3, 1) := by decide +kernel
theorem dX6_tables_35 : decode cX6_tables 35 = .ok (.invokevirtual 222, 3) := by decide +kernel
theorem dX6_tables_38 : decode cX6_tables 38 = .ok (.ireturn, 1) := by decide +kernel
set_option maxRecDepth 20000 in
theorem ggX6_tableAt_X6_isTables : GoodIn wsX6_tableAt wsX6_isTables := goodIn_r _ [4] (by decide +kernel) (by decide +kernel)
set_option maxRecDepth 20000 in
theorem gX6_tableAt_X6_isTables : GoodIn wsX6_tableAt (va_wsS RX6 215 yX6_isTables wsX6_isTables) := goodIn_app (goodIn_of _ (by decide +kernel)) ggX6_tableAt_X6_isTables
set_option maxRecDepth 20000 in
theorem ggX6_tableAt_X6_bestTables : GoodIn wsX6_tableAt wsX6_bestTables := goodIn_r _ [8, 9, 10, 11, 12, 13, 14, 15, 16, 17, 18, 3, 19, 20, 21, 22, 23, 24, 25, 26, 27, 28, 29, 30, 31, 32, 33, 34, 35, 36, 37, 38, 39, 40, 41, 42, 43, 44, 45, 46, 47, 48, 49, 50, 51, 52, 53, 54, 55, 56, 57, 58, 59, 60] (by decide +kernel) (by decide +kernel)
set_option maxRecDepth 20000 in
theorem gX6_tableAt_X6_bestTables : GoodIn wsX6_tableAt (wsV RX6 218 RX6 yX6_bestTables wsX6_bestTables) := goodIn_app (goodIn_of _ (by decide +kernel)) ggX6_tableAt_X6_bestTables
set_option maxRecDepth 20000 in
theorem ggX6_tableAt_X6_isIn : GoodIn wsX6_tableAt wsX6_isIn := goodIn_r _ [27] (by decide +kernel) (by decide +kernel)
set_option maxRecDepth 20000 in
theorem gX6_tableAt_X6_isIn : GoodIn wsX6_tableAt (va_wsS RX6 225 yX6_isIn wsX6_isIn) := goodIn_app (goodIn_of _ (by decide +kernel)) ggX6_tableAt_X6_isIn
set_option maxRecDepth 20000 in
theorem ggX6_tableAt_X6_cellInLine : GoodIn wsX6_tableAt wsX6_cellInLine := goodIn_r _ [30] (by decide +kernel) (by decide +kernel)
set_option maxRecDepth 20000 in
theorem gX6_tableAt_X6_cellInLine : GoodIn wsX6_tableAt (va_wsS RX6 228 yX6_cellInLine wsX6_cellInLine) := goodIn_app (goodIn_of _ (by decide +kernel)) ggX6_tableAt_X6_cellInLine
theorem dX6_tableAt_0 : decode cX6_tableAt 0 = .ok (.iload_n 1, 1) := by decide +kernel
theorem dX6_tableAt_1 : decode cX6_tableAt 1 = .ok (.iload_n 3, 1) := by decide +kernel
theorem dX6_tableAt_2 : decode cX6_tableAt 2 = .ok (.invokestatic 215, 3) := by decide +kernel
theorem dX6_tableAt_5 : decode cX6_tableAt 5 = .ok (.ifCond .ne 6, 3) := by decide +kernel
theorem dX6_tableAt_8 : decode cX6_tableAt 8 = .ok (.bipush (-2), 2) := by decide +kernel
theorem dX6_tableAt_10 : decode cX6_tableAt 10 = .ok (.ireturn, 1) := by decide +kernel
theorem dX6_tableAt_11 : decode cX6_tableAt 11 = .ok (.aload_n 0, 1) := by decide +kernel
theorem dX6_tableAt_12 : decode cX6_tableAt 12 = .ok (.iload_n 1, 1) := by decide +kernel
theorem dX6_tableAt_13 : decode cX6_tableAt 13 = .ok (.iload_n 2, 1) := by decide +kernel
theorem dX6_tableAt_14 : decode cX6_tableAt 14 = .ok (.iload_n 3, 1) := by decide +kernel
theorem dX6_tableAt_15 : decode cX6_tableAt 15 = .ok (.invokevirtual 218, 3) := by decide +kernel
theorem dX6_tableAt_18 : decode cX6_tableAt 18 = .ok (.istore 5, 2) := by decide +kernel
theorem dX6_tableAt_20 : decode cX6_tableAt 20 = .ok (.iconst 0, 1) := by decide +kernel
theorem dX6_tableAt_21 : decode cX6_tableAt 21 = .ok (.istore 6, 2) := by decide +kernel
theorem dX6_tableAt_23 : decode cX6_tableAt 23 = .ok (.iconst 0, 1) := by decide +kernel
theorem dX6_tableAt_24 : decode cX6_tableAt 24 = .ok (.istore 7, 2) := by decide +kernel
theorem dX6_tableAt_26 : decode cX6_tableAt 26 = .ok (.iload 7, 2) := by decide +kernel
theorem dX6_tableAt_28 : decode cX6_tableAt 28 = .ok (.bipush 10, 2) := by decide +kernel
theorem dX6_tableAt_30 : decode cX6_tableAt 30 = .ok (.if_icmp .ge 37, 3) := by decide +kernel
theorem dX6_tableAt_33 : decode cX6_tableAt 33 = .ok (.iload 5, 2) := by decide +kernel
theorem dX6_tableAt_35 : decode cX6_tableAt 35 = .ok (.iload 7, 2) := by decide +kernel
theorem dX6_tableAt_37 : decode cX6_tableAt 37 = .ok (.invokestatic 225, 3) := by decide +kernel
theorem dX6_tableAt_40 : decode cX6_tableAt 40 = .ok (.ifCond .eq 21, 3) := by decide +kernel
theorem dX6_tableAt_43 : decode cX6_tableAt 43 = .ok (.iload 6, 2) := by decide +kernel
theorem dX6_tableAt_45 : decode cX6_tableAt 45 = .ok (.iload 4, 2) := by decide +kernel
theorem dX6_tableAt_47 : decode cX6_tableAt 47 = .ok (.if_icmp .ne 11, 3) := by decide +kernel
theorem dX6_tableAt_50 : decode cX6_tableAt 50 = .ok (.iload_n 2, 1) := by decide +kernel
theorem dX6_tableAt_51 : decode cX6_tableAt 51 = .ok (.iload_n 3, 1) := by decide +kernel
theorem dX6_tableAt_52 : decode cX6_tableAt 52 = .ok (.iload 7, 2) := by decide +kernel
theorem dX6_tableAt_54 : decode cX6_tableAt 54 = .ok (.invokestatic 228, 3) := by decide +kernel
theorem dX6_tableAt_57 : decode cX6_tableAt 57 = .ok (.ireturn, 1) := by decide +kernel
theorem dX6_tableAt_58 : decode cX6_tableAt 58 = .ok (.iinc 6 1, 3) := by decide +kernel
theorem dX6_tableAt_61 : decode cX6_tableAt 61 = .ok (.iinc 7 1, 3) := by decide +kernel
theorem dX6_tableAt_64 : decode cX6_tableAt 64 = .ok (.goto (-38), 3) := by decide +kernel
theorem dX6_tableAt_67 : decode cX6_tableAt 67 = .ok (.bipush (-9), 2) := by decide +kernel
theorem dX6_tableAt_69 : decode cX6_tableAt 69 = .ok (.ireturn, 1) := by decide +kernel
set_option maxRecDepth 20000 in
theorem ggX6_chance_X1_has : GoodIn wsX6_chance wsX1_has := goodIn_r _ [13, 14, 97, 98, 99, 100, 101, 102, 103, 104, 105, 106, 107, 108] (by decide +kernel) (by decide +kernel)
set_option maxRecDepth 20000 in
theorem gX6_chance_X1_has : GoodIn wsX6_chance (wsV RX6 109 RX1 yX1_has wsX1_has) := goodIn_app (goodIn_of _ (by decide +kernel)) ggX6_chance_X1_has
set_option maxRecDepth 20000 in
theorem ggX6_chance_X1_copyFrom : GoodIn wsX6_chance wsX1_copyFrom := goodIn_r _ [18, 19, 20, 21, 22, 23, 12, 24, 14, 25, 26, 27, 28, 29, 30, 31, 97, 98, 99, 100, 101, 102, 103, 104, 105, 106, 107, 108] (by decide +kernel) (by decide +kernel)
set_option maxRecDepth 20000 in
theorem gX6_chance_X1_copyFrom : GoodIn wsX6_chance (wsV RX6 69 RX1 yX1_copyFrom wsX1_copyFrom) := goodIn_app (goodIn_of _ (by decide +kernel)) ggX6_chance_X1_copyFrom
set_option maxRecDepth 20000 in
theorem ggX6_chance_X6_weightOf : GoodIn wsX6_chance wsX6_weightOf := goodIn_r _ [36, 1, 89, 90, 91, 92, 93, 94, 95, 96, 97, 98, 99, 100, 101, 102, 103, 104, 105, 106, 107, 108] (by decide +kernel) (by decide +kernel)
set_option maxRecDepth 20000 in
theorem gX6_chance_X6_weightOf : GoodIn wsX6_chance (wsV RX6 239 RX6 yX6_weightOf wsX6_weightOf) := goodIn_app (goodIn_of _ (by decide +kernel)) ggX6_chance_X6_weightOf
set_option maxRecDepth 20000 in
theorem ggX6_chance_X1_hears : GoodIn wsX6_chance wsX1_hears := goodIn_r _ [40, 26, 41, 42, 43, 12, 44, 25, 27, 45, 46, 47, 48, 31, 28, 49, 50, 51, 52, 53, 54, 7, 55, 56, 57, 58, 59, 60, 61, 62, 63, 19, 64, 65, 66, 67, 14, 68, 69, 70, 71, 30, 72, 73, 74, 75, 76, 77, 78, 79, 80, 35, 81, 82, 83, 84, 85, 29, 97, 98, 99, 100, 101, 102, 103, 104, 105, 106, 107, 108] (by decide +kernel) (by decide +kernel)
set_option maxRecDepth 20000 in
theorem gX6_chance_X1_hears : GoodIn wsX6_chance (wsV RX6 140 RX1 yX1_hears wsX1_hears) := goodIn_app (goodIn_of _ (by decide +kernel)) ggX6_chance_X1_hears
set_option maxRecDepth 20000 in
theorem ggX6_chance_X6_commonDivisor : GoodIn wsX6_chance wsX6_commonDivisor := goodIn_r _ [88] (by decide +kernel) (by decide +kernel)
set_option maxRecDepth 20000 in
theorem gX6_chance_X6_commonDivisor : GoodIn wsX6_chance (va_wsS RX6 243 yX6_commonDivisor wsX6_commonDivisor) := goodIn_app (goodIn_of _ (by decide +kernel)) ggX6_chance_X6_commonDivisor
theorem dX6_chance_0 : decode cX6_chance 0 = .ok (.aload_n 0, 1) := by decide +kernel
theorem dX6_chance_1 : decode cX6_chance 1 = .ok (.getfield 19, 3) := by decide +kernel
theorem dX6_chance_4 : decode cX6_chance 4 = .ok (.iload_n 1, 1) := by decide +kernel
theorem dX6_chance_5 : decode cX6_chance 5 = .ok (.invokevirtual 109, 3) := by decide +kernel
theorem dX6_chance_8 : decode cX6_chance 8 = .ok (.ifCond .ne 7, 3) := by decide +kernel
theorem dX6_chance_11 : decode cX6_chance 11 = .ok (.ldc2_w 232, 3) := by decide +kernel
theorem dX6_chance_14 : decode cX6_chance 14 = .ok (.lreturn, 1) := by decide +kernel
theorem dX6_chance_15 : decode cX6_chance 15 = .ok (.iload_n 2, 1) := by decide +kernel
theorem dX6_chance_16 : decode cX6_chance 16 = .ok (.ifCond .lt 9, 3) := by decide +kernel
theorem dX6_chance_19 : decode cX6_chance 19 = .ok (.iload_n 2, 1) := by decide +kernel
theorem dX6_chance_20 : decode cX6_chance 20 = .ok (.bipush 10, 2) := by decide +kernel
theorem dX6_chance_22 : decode cX6_chance 22 = .ok (.if_icmp .le 7, 3) := by decide +kernel
theorem dX6_chance_25 : decode cX6_chance 25 = .ok (.ldc2_w 234, 3) := by decide +kernel
theorem dX6_chance_28 : decode cX6_chance 28 = .ok (.lreturn, 1) := by decide +kernel
theorem dX6_chance_29 : decode cX6_chance 29 = .ok (.lconst 0, 1) := by decide +kernel
theorem dX6_chance_30 : decode cX6_chance 30 = .ok (.lstore 4, 2) := by decide +kernel
theorem dX6_chance_32 : decode cX6_chance 32 = .ok (.lconst 0, 1) := by decide +kernel
theorem dX6_chance_33 : decode cX6_chance 33 = .ok (.lstore 6, 2) := by decide +kernel
theorem dX6_chance_35 : decode cX6_chance 35 = .ok (.aload_n 0, 1) := by decide +kernel
theorem dX6_chance_36 : decode cX6_chance 36 = .ok (.getfield 23, 3) := by decide +kernel
theorem dX6_chance_39 : decode cX6_chance 39 = .ok (.aload_n 0, 1) := by decide +kernel
theorem dX6_chance_40 : decode cX6_chance 40 = .ok (.getfield 19, 3) := by decide +kernel
theorem dX6_chance_43 : decode cX6_chance 43 = .ok (.invokevirtual 69, 3) := by decide +kernel
theorem dX6_chance_46 : decode cX6_chance 46 = .ok (.iconst 0, 1) := by decide +kernel
theorem dX6_chance_47 : decode cX6_chance 47 = .ok (.istore 8, 2) := by decide +kernel
theorem dX6_chance_49 : decode cX6_chance 49 = .ok (.iload 8, 2) := by decide +kernel
theorem dX6_chance_51 : decode cX6_chance 51 = .ok (.iconst 1, 1) := by decide +kernel
theorem dX6_chance_52 : decode cX6_chance 52 = .ok (.aload_n 0, 1) := by decide +kernel
theorem dX6_chance_53 : decode cX6_chance 53 = .ok (.getfield 19, 3) := by decide +kernel
theorem dX6_chance_56 : decode cX6_chance 56 = .ok (.getfield 79, 3) := by decide +kernel
theorem dX6_chance_59 : decode cX6_chance 59 = .ok (.ishl, 1) := by decide +kernel
theorem dX6_chance_60 : decode cX6_chance 60 = .ok (.if_icmp .ge 66, 3) := by decide +kernel
theorem dX6_chance_63 : decode cX6_chance 63 = .ok (.iload 8, 2) := by decide +kernel
theorem dX6_chance_65 : decode cX6_chance 65 = .ok (.iload_n 1, 1) := by decide +kernel
theorem dX6_chance_66 : decode cX6_chance 66 = .ok (.ishr, 1) := by decide +kernel
theorem dX6_chance_67 : decode cX6_chance 67 = .ok (.iconst 1, 1) := by decide +kernel
theorem dX6_chance_68 : decode cX6_chance 68 = .ok (.iand, 1) := by decide +kernel
theorem dX6_chance_69 : decode cX6_chance 69 = .ok (.ifCond .ne 51, 3) := by decide +kernel
theorem dX6_chance_72 : decode cX6_chance 72 = .ok (.aload_n 0, 1) := by decide +kernel
theorem dX6_chance_73 : decode cX6_chance 73 = .ok (.getfield 23, 3) := by decide +kernel
theorem dX6_chance_76 : decode cX6_chance 76 = .ok (.iload 8, 2) := by decide +kernel
theorem dX6_chance_78 : decode cX6_chance 78 = .ok (.putfield 236, 3) := by decide +kernel
theorem dX6_chance_81 : decode cX6_chance 81 = .ok (.aload_n 0, 1) := by decide +kernel
theorem dX6_chance_82 : decode cX6_chance 82 = .ok (.iload 8, 2) := by decide +kernel
theorem dX6_chance_84 : decode cX6_chance 84 = .ok (.iload_n 1, 1) := by decide +kernel
theorem dX6_chance_85 : decode cX6_chance 85 = .ok (.iload_n 2, 1) := by decide +kernel
theorem dX6_chance_86 : decode cX6_chance 86 = .ok (.invokevirtual 239, 3) := by decide +kernel
theorem dX6_chance_89 : decode cX6_chance 89 = .ok (.lstore 9, 2) := by decide +kernel
theorem dX6_chance_91 : decode cX6_chance 91 = .ok (.lload 6, 2) := by decide +kernel
theorem dX6_chance_93 : decode cX6_chance 93 = .ok (.lload 9, 2) := by decide +kernel
theorem dX6_chance_95 : decode cX6_chance 95 = .ok (.ladd, 1) := by decide +kernel
theorem dX6_chance_96 : decode cX6_chance 96 = .ok (.lstore 6, 2) := by decide +kernel
theorem dX6_chance_98 : decode cX6_chance 98 = .ok (.lload 4, 2) := by decide +kernel
theorem dX6_chance_100 : decode cX6_chance 100 = .ok (.aload_n 0, 1) := by decide +kernel
theorem dX6_chance_101 : decode cX6_chance 101 = .ok (.getfield 23, 3) := by decide +kernel
theorem dX6_chance_104 : decode cX6_chance 104 = .ok (.iload_n 1, 1) := by decide +kernel
theorem dX6_chance_105 : decode cX6_chance 105 = .ok (.invokevirtual 140, 3) := by decide +kernel
theorem dX6_chance_108 : decode cX6_chance 108 = .ok (.ifCond .eq 8, 3) := by decide +kernel
theorem dX6_chance_111 : decode cX6_chance 111 = .ok (.lload 9, 2) := by decide +kernel
theorem dX6_chance_113 : decode cX6_chance 113 = .ok (.goto 4, 3) := by decide +kernel
theorem dX6_chance_116 : decode cX6_chance 116 = .ok (.lconst 0, 1) := by decide +kernel
theorem dX6_chance_117 : decode cX6_chance 117 = .ok (.ladd, 1) := by decide +kernel
theorem dX6_chance_118 : decode cX6_chance 118 = .ok (.lstore 4, 2) := by decide +kernel
theorem dX6_chance_120 : decode cX6_chance 120 = .ok (.iinc 8 1, 3) := by decide +kernel
theorem dX6_chance_123 : decode cX6_chance 123 = .ok (.goto (-74), 3) := by decide +kernel
theorem dX6_chance_126 : decode cX6_chance 126 = .ok (.lconst 1, 1) := by decide +kernel
theorem dX6_chance_127 : decode cX6_chance 127 = .ok (.lload 6, 2) := by decide +kernel
theorem dX6_chance_129 : decode cX6_chance 129 = .ok (.lload 4, 2) := by decide +kernel
theorem dX6_chance_131 : decode cX6_chance 131 = .ok (.invokestatic 243, 3) := by decide +kernel
theorem dX6_chance_134 : decode cX6_chance 134 = .ok (.invokestatic 247, 3) := by decide +kernel
theorem dX6_chance_137 : decode cX6_chance 137 = .ok (.lstore 8, 2) := by decide +kernel
theorem dX6_chance_139 : decode cX6_chance 139 = .ok (.iload_n 3, 1) := by decide +kernel
theorem dX6_chance_140 : decode cX6_chance 140 = .ok (.ifCond .eq 11, 3) := by decide +kernel

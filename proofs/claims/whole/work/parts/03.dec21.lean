theorem dX7_would_6 : decode cX7_would 6 = .ok (.iconst 1, 1) := by decide +kernel
theorem dX7_would_7 : decode cX7_would 7 = .ok (.if_icmp .eq 31, 3) := by decide +kernel
theorem dX7_would_10 : decode cX7_would 10 = .ok (.aload_n 0, 1) := by decide +kernel
theorem dX7_would_11 : decode cX7_would 11 = .ok (.getfield 13, 3) := by decide +kernel
theorem dX7_would_14 : decode cX7_would 14 = .ok (.iload_n 1, 1) := by decide +kernel
theorem dX7_would_15 : decode cX7_would 15 = .ok (.iaload, 1) := by decide +kernel
theorem dX7_would_16 : decode cX7_would 16 = .ok (.iconst 4, 1) := by decide +kernel
theorem dX7_would_17 : decode cX7_would 17 = .ok (.if_icmp .eq 21, 3) := by decide +kernel
theorem dX7_would_20 : decode cX7_would 20 = .ok (.bipush 10, 2) := by decide +kernel
theorem dX7_would_22 : decode cX7_would 22 = .ok (.iload_n 2, 1) := by decide +kernel
theorem dX7_would_23 : decode cX7_would 23 = .ok (.imul, 1) := by decide +kernel
theorem dX7_would_24 : decode cX7_would 24 = .ok (.iload_n 3, 1) := by decide +kernel
theorem dX7_would_25 : decode cX7_would 25 = .ok (.bipush 10, 2) := by decide +kernel
theorem dX7_would_27 : decode cX7_would 27 = .ok (.aload_n 0, 1) := by decide +kernel
theorem dX7_would_28 : decode cX7_would 28 = .ok (.getfield 25, 3) := by decide +kernel
theorem dX7_would_31 : decode cX7_would 31 = .ok (.iload_n 1, 1) := by decide +kernel
theorem dX7_would_32 : decode cX7_would 32 = .ok (.iaload, 1) := by decide +kernel
theorem dX7_would_33 : decode cX7_would 33 = .ok (.iadd, 1) := by decide +kernel
theorem dX7_would_34 : decode cX7_would 34 = .ok (.imul, 1) := by decide +kernel
theorem dX7_would_35 : decode cX7_would 35 = .ok (.if_icmp .lt 7, 3) := by decide +kernel
theorem dX7_would_38 : decode cX7_would 38 = .ok (.iconst 1, 1) := by decide +kernel
theorem dX7_would_39 : decode cX7_would 39 = .ok (.goto 4, 3) := by decide +kernel
theorem dX7_would_42 : decode cX7_would 42 = .ok (.iconst 0, 1) := by decide +kernel
theorem dX7_would_43 : decode cX7_would 43 = .ok (.ireturn, 1) := by decide +kernel
set_option maxRecDepth 20000 in
theorem ggX7_hears_X7_loudOf : GoodIn wsX7_hears wsX7_loudOf := goodIn_r _ [6, 7, 8, 9, 10, 11, 5, 12, 49, 50, 51, 52, 53, 54, 55, 56, 57, 58, 59, 60, 61, 62, 63, 64, 65, 66, 67, 68, 69, 70, 71, 72, 73, 74, 75, 76, 77, 78, 79, 80, 81, 82, 83, 84, 85, 86, 87, 88] (by decide +kernel) (by decide +kernel)
set_option maxRecDepth 20000 in
theorem gX7_hears_X7_loudOf : GoodIn wsX7_hears (wsV RX7 157 RX7 yX7_loudOf wsX7_loudOf) := goodIn_app (goodIn_of _ (by decide +kernel)) ggX7_hears_X7_loudOf
set_option maxRecDepth 20000 in
theorem ggX7_hears_X7_soundOf : GoodIn wsX7_hears wsX7_soundOf := goodIn_r _ [16, 7, 17, 49, 50, 51, 52, 53, 54, 55, 56, 57, 58, 59, 60, 61, 62, 63, 64, 65, 66, 67, 68, 69, 70, 71, 72, 73, 74, 75, 76, 77, 78, 79, 80, 81, 82, 83, 84, 85, 86, 87, 88] (by decide +kernel) (by decide +kernel)
set_option maxRecDepth 20000 in
theorem gX7_hears_X7_soundOf : GoodIn wsX7_hears (wsV RX7 176 RX7 yX7_soundOf wsX7_soundOf) := goodIn_app (goodIn_of _ (by decide +kernel)) ggX7_hears_X7_soundOf
set_option maxRecDepth 20000 in
theorem ggX7_hears_X7_noiseAt : GoodIn wsX7_hears wsX7_noiseAt := goodIn_r _ [21, 22, 23, 24, 25, 5, 26, 27, 28, 29, 30, 31, 2, 3, 4, 6, 7, 8, 9, 10, 11, 12, 32, 33, 34, 35, 36, 37, 38, 39, 40, 1, 41, 42, 43, 49, 50, 51, 52, 53, 54, 55, 56, 57, 58, 59, 60, 61, 62, 63, 64, 65, 66, 67, 68, 69, 70, 71, 72, 73, 74, 75, 76, 77, 78, 79, 80, 81, 82, 83, 84, 85, 86, 87, 88] (by decide +kernel) (by decide +kernel)
set_option maxRecDepth 20000 in
theorem gX7_hears_X7_noiseAt : GoodIn wsX7_hears (wsV RX7 179 RX7 yX7_noiseAt wsX7_noiseAt) := goodIn_app (goodIn_of _ (by decide +kernel)) ggX7_hears_X7_noiseAt
set_option maxRecDepth 20000 in
theorem ggX7_hears_X7_would : GoodIn wsX7_hears wsX7_would := goodIn_r _ [47, 7, 17, 48, 49, 50, 51, 52, 53, 54, 55, 56, 57, 58, 59, 60, 61, 62, 63, 64, 65, 66, 67, 68, 69, 70, 71, 72, 73, 74, 75, 76, 77, 78, 79, 80, 81, 82, 83, 84, 85, 86, 87, 88] (by decide +kernel) (by decide +kernel)
set_option maxRecDepth 20000 in
theorem gX7_hears_X7_would : GoodIn wsX7_hears (wsV RX7 182 RX7 yX7_would wsX7_would) := goodIn_app (goodIn_of _ (by decide +kernel)) ggX7_hears_X7_would
theorem dX7_hears_0 : decode cX7_hears 0 = .ok (.aload_n 0, 1) := by decide +kernel
theorem dX7_hears_1 : decode cX7_hears 1 = .ok (.iload_n 1, 1) := by decide +kernel
theorem dX7_hears_2 : decode cX7_hears 2 = .ok (.aload_n 0, 1) := by decide +kernel
theorem dX7_hears_3 : decode cX7_hears 3 = .ok (.iload_n 1, 1) := by decide +kernel
theorem dX7_hears_4 : decode cX7_hears 4 = .ok (.aload_n 0, 1) := by decide +kernel
theorem dX7_hears_5 : decode cX7_hears 5 = .ok (.iload_n 1, 1) := by decide +kernel
theorem dX7_hears_6 : decode cX7_hears 6 = .ok (.invokevirtual 157, 3) := by decide +kernel
theorem dX7_hears_9 : decode cX7_hears 9 = .ok (.invokevirtual 176, 3) := by decide +kernel
theorem dX7_hears_12 : decode cX7_hears 12 = .ok (.aload_n 0, 1) := by decide +kernel
theorem dX7_hears_13 : decode cX7_hears 13 = .ok (.aload_n 0, 1) := by decide +kernel
theorem dX7_hears_14 : decode cX7_hears 14 = .ok (.getfield 16, 3) := by decide +kernel
theorem dX7_hears_17 : decode cX7_hears 17 = .ok (.iload_n 1, 1) := by decide +kernel
theorem dX7_hears_18 : decode cX7_hears 18 = .ok (.iaload, 1) := by decide +kernel
theorem dX7_hears_19 : decode cX7_hears 19 = .ok (.invokevirtual 179, 3) := by decide +kernel
theorem dX7_hears_22 : decode cX7_hears 22 = .ok (.invokevirtual 182, 3) := by decide +kernel
theorem dX7_hears_25 : decode cX7_hears 25 = .ok (.ireturn, 1) := by decide +kernel
set_option maxRecDepth 20000 in
theorem ggX7_allHear_X7_hears : GoodIn wsX7_allHear wsX7_hears := goodIn_r _ [6, 7, 8, 9, 10, 5, 11, 12, 13, 14, 15, 16, 17, 18, 19, 20, 21, 22, 23, 24, 25, 26, 1, 27, 28, 29, 30, 31, 32, 33, 34, 35, 36, 37, 38, 39, 40, 41, 42, 43, 44, 45, 46, 47, 48, 49, 50, 51, 52, 53, 54, 55, 56, 57, 58, 59, 60, 61, 62, 63, 64, 65, 66, 67, 68, 69, 70, 71, 72, 73, 74, 75, 76, 77, 78, 79, 80, 81, 82, 83, 84, 85, 86, 87, 88, 89, 90, 91, 92] (by decide +kernel) (by decide +kernel)
set_option maxRecDepth 20000 in
theorem gX7_allHear_X7_hears : GoodIn wsX7_allHear (wsV RX7 186 RX7 yX7_hears wsX7_hears) := goodIn_app (goodIn_of _ (by decide +kernel)) ggX7_allHear_X7_hears
theorem dX7_allHear_0 : decode cX7_allHear 0 = .ok (.iconst 1, 1) := by decide +kernel
theorem dX7_allHear_1 : decode cX7_allHear 1 = .ok (.istore_n 1, 1) := by decide +kernel
theorem dX7_allHear_2 : decode cX7_allHear 2 = .ok (.iconst 0, 1) := by decide +kernel
theorem dX7_allHear_3 : decode cX7_allHear 3 = .ok (.istore_n 2, 1) := by decide +kernel
theorem dX7_allHear_4 : decode cX7_allHear 4 = .ok (.iload_n 2, 1) := by decide +kernel
theorem dX7_allHear_5 : decode cX7_allHear 5 = .ok (.aload_n 0, 1) := by decide +kernel
theorem dX7_allHear_6 : decode cX7_allHear 6 = .ok (.getfield 141, 3) := by decide +kernel
theorem dX7_allHear_9 : decode cX7_allHear 9 = .ok (.if_icmp .ge 19, 3) := by decide +kernel
theorem dX7_allHear_12 : decode cX7_allHear 12 = .ok (.iload_n 1, 1) := by decide +kernel
theorem dX7_allHear_13 : decode cX7_allHear 13 = .ok (.ifCond .eq 15, 3) := by decide +kernel
theorem dX7_allHear_16 : decode cX7_allHear 16 = .ok (.aload_n 0, 1) := by decide +kernel
theorem dX7_allHear_17 : decode cX7_allHear 17 = .ok (.iload_n 2, 1) := by decide +kernel
theorem dX7_allHear_18 : decode cX7_allHear 18 = .ok (.invokevirtual 186, 3) := by decide +kernel
theorem dX7_allHear_21 : decode cX7_allHear 21 = .ok (.istore_n 1, 1) := by decide +kernel
theorem dX7_allHear_22 : decode cX7_allHear 22 = .ok (.iinc 2 1, 3) := by decide +kernel
theorem dX7_allHear_25 : decode cX7_allHear 25 = .ok (.goto (-21), 3) := by decide +kernel
theorem dX7_allHear_28 : decode cX7_allHear 28 = .ok (.iload_n 1, 1) := by decide +kernel
theorem dX7_allHear_29 : decode cX7_allHear 29 = .ok (.ireturn, 1) := by decide +kernel
set_option maxRecDepth 20000 in
theorem ggX7_voiceThen_X7_noiseAt : GoodIn wsX7_voiceThen wsX7_noiseAt := goodIn_r _ [9, 10, 11, 12, 13, 8, 14, 15, 16, 17, 18, 19, 20, 21, 22, 23, 1, 24, 3, 25, 26, 27, 28, 29, 30, 31, 32, 33, 34, 35, 36, 4, 37, 38, 39, 49, 50, 51, 52, 53, 54, 55, 56, 57, 58, 59, 60, 61, 62, 63, 64, 65, 66, 67, 68, 69, 70, 71, 72, 73, 74, 75, 76, 77, 78, 79, 80, 81, 82, 83, 84, 85, 86, 87, 88] (by decide +kernel) (by decide +kernel)
set_option maxRecDepth 20000 in
theorem gX7_voiceThen_X7_noiseAt : GoodIn wsX7_voiceThen (wsV RX7 179 RX7 yX7_noiseAt wsX7_noiseAt) := goodIn_app (goodIn_of _ (by decide +kernel)) ggX7_voiceThen_X7_noiseAt
set_option maxRecDepth 20000 in
theorem ggX7_voiceThen_X7_loudOf : GoodIn wsX7_voiceThen wsX7_loudOf := goodIn_r _ [23, 1, 24, 3, 25, 26, 8, 27, 49, 50, 51, 52, 53, 54, 55, 56, 57, 58, 59, 60, 61, 62, 63, 64, 65, 66, 67, 68, 69, 70, 71, 72, 73, 74, 75, 76, 77, 78, 79, 80, 81, 82, 83, 84, 85, 86, 87, 88] (by decide +kernel) (by decide +kernel)
set_option maxRecDepth 20000 in
theorem gX7_voiceThen_X7_loudOf : GoodIn wsX7_voiceThen (wsV RX7 157 RX7 yX7_loudOf wsX7_loudOf) := goodIn_app (goodIn_of _ (by decide +kernel)) ggX7_voiceThen_X7_loudOf
set_option maxRecDepth 20000 in
theorem ggX7_voiceThen_X7_soundOf : GoodIn wsX7_voiceThen wsX7_soundOf := goodIn_r _ [43, 1, 2, 49, 50, 51, 52, 53, 54, 55, 56, 57, 58, 59, 60, 61, 62, 63, 64, 65, 66, 67, 68, 69, 70, 71, 72, 73, 74, 75, 76, 77, 78, 79, 80, 81, 82, 83, 84, 85, 86, 87, 88] (by decide +kernel) (by decide +kernel)
set_option maxRecDepth 20000 in
theorem gX7_voiceThen_X7_soundOf : GoodIn wsX7_voiceThen (wsV RX7 176 RX7 yX7_soundOf wsX7_soundOf) := goodIn_app (goodIn_of _ (by decide +kernel)) ggX7_voiceThen_X7_soundOf
set_option maxRecDepth 20000 in
theorem ggX7_voiceThen_X7_would : GoodIn wsX7_voiceThen wsX7_would := goodIn_r _ [47, 1, 2, 48, 49, 50, 51, 52, 53, 54, 55, 56, 57, 58, 59, 60, 61, 62, 63, 64, 65, 66, 67, 68, 69, 70, 71, 72, 73, 74, 75, 76, 77, 78, 79, 80, 81, 82, 83, 84, 85, 86, 87, 88] (by decide +kernel) (by decide +kernel)
set_option maxRecDepth 20000 in
theorem gX7_voiceThen_X7_would : GoodIn wsX7_voiceThen (wsV RX7 182 RX7 yX7_would wsX7_would) := goodIn_app (goodIn_of _ (by decide +kernel)) ggX7_voiceThen_X7_would
theorem dX7_voiceThen_0 : decode cX7_voiceThen 0 = .ok (.aload_n 0, 1) := by decide +kernel
theorem dX7_voiceThen_1 : decode cX7_voiceThen 1 = .ok (.getfield 19, 3) := by decide +kernel
theorem dX7_voiceThen_4 : decode cX7_voiceThen 4 = .ok (.iload_n 1, 1) := by decide +kernel
theorem dX7_voiceThen_5 : decode cX7_voiceThen 5 = .ok (.iaload, 1) := by decide +kernel
theorem dX7_voiceThen_6 : decode cX7_voiceThen 6 = .ok (.iconst 1, 1) := by decide +kernel
theorem dX7_voiceThen_7 : decode cX7_voiceThen 7 = .ok (.if_icmp .eq 13, 3) := by decide +kernel
theorem dX7_voiceThen_10 : decode cX7_voiceThen 10 = .ok (.aload_n 0, 1) := by decide +kernel
theorem dX7_voiceThen_11 : decode cX7_voiceThen 11 = .ok (.getfield 13, 3) := by decide +kernel
theorem dX7_voiceThen_14 : decode cX7_voiceThen 14 = .ok (.iload_n 1, 1) := by decide +kernel
theorem dX7_voiceThen_15 : decode cX7_voiceThen 15 = .ok (.iaload, 1) := by decide +kernel
theorem dX7_voiceThen_16 : decode cX7_voiceThen 16 = .ok (.iconst 4, 1) := by decide +kernel
theorem dX7_voiceThen_17 : decode cX7_voiceThen 17 = .ok (.if_icmp .ne 10, 3) := by decide +kernel
theorem dX7_voiceThen_20 : decode cX7_voiceThen 20 = .ok (.aload_n 0, 1) := by decide +kernel
theorem dX7_voiceThen_21 : decode cX7_voiceThen 21 = .ok (.getfield 56, 3) := by decide +kernel
theorem dX7_voiceThen_24 : decode cX7_voiceThen 24 = .ok (.iload_n 1, 1) := by decide +kernel
theorem dX7_voiceThen_25 : decode cX7_voiceThen 25 = .ok (.iaload, 1) := by decide +kernel
theorem dX7_voiceThen_26 : decode cX7_voiceThen 26 = .ok (.ireturn, 1) := by decide +kernel
theorem dX7_voiceThen_27 : decode cX7_voiceThen 27 = .ok (.aload_n 0, 1) := by decide +kernel
theorem dX7_voiceThen_28 : decode cX7_voiceThen 28 = .ok (.aload_n 0, 1) := by decide +kernel
theorem dX7_voiceThen_29 : decode cX7_voiceThen 29 = .ok (.getfield 16, 3) := by decide +kernel
theorem dX7_voiceThen_32 : decode cX7_voiceThen 32 = .ok (.iload_n 1, 1) := by decide +kernel
theorem dX7_voiceThen_33 : decode cX7_voiceThen 33 = .ok (.iaload, 1) := by decide +kernel
theorem dX7_voiceThen_34 : decode cX7_voiceThen 34 = .ok (.invokevirtual 179, 3) := by decide +kernel
theorem dX7_voiceThen_37 : decode cX7_voiceThen 37 = .ok (.istore_n 2, 1) := by decide +kernel
theorem dX7_voiceThen_38 : decode cX7_voiceThen 38 = .ok (.aload_n 0, 1) := by decide +kernel
theorem dX7_voiceThen_39 : decode cX7_voiceThen 39 = .ok (.iload_n 1, 1) := by decide +kernel
theorem dX7_voiceThen_40 : decode cX7_voiceThen 40 = .ok (.aload_n 0, 1) := by decide +kernel
theorem dX7_voiceThen_41 : decode cX7_voiceThen 41 = .ok (.iload_n 1, 1) := by decide +kernel
theorem dX7_voiceThen_42 : decode cX7_voiceThen 42 = .ok (.invokevirtual 157, 3) := by decide +kernel
theorem dX7_voiceThen_45 : decode cX7_voiceThen 45 = .ok (.invokevirtual 176, 3) := by decide +kernel
theorem dX7_voiceThen_48 : decode cX7_voiceThen 48 = .ok (.istore_n 3, 1) := by decide +kernel
theorem dX7_voiceThen_49 : decode cX7_voiceThen 49 = .ok (.aload_n 0, 1) := by decide +kernel
theorem dX7_voiceThen_50 : decode cX7_voiceThen 50 = .ok (.iload_n 1, 1) := by decide +kernel
theorem dX7_voiceThen_51 : decode cX7_voiceThen 51 = .ok (.iload_n 3, 1) := by decide +kernel
theorem dX7_voiceThen_52 : decode cX7_voiceThen 52 = .ok (.iload_n 2, 1) := by decide +kernel
theorem dX7_voiceThen_53 : decode cX7_voiceThen 53 = .ok (.invokevirtual 182, 3) := by decide +kernel
theorem dX7_voiceThen_56 : decode cX7_voiceThen 56 = .ok (.ifCond .ne 85, 3) := by decide +kernel
theorem dX7_voiceThen_59 : decode cX7_voiceThen 59 = .ok (.aload_n 0, 1) := by decide +kernel
theorem dX7_voiceThen_60 : decode cX7_voiceThen 60 = .ok (.getfield 13, 3) := by decide +kernel
theorem dX7_voiceThen_63 : decode cX7_voiceThen 63 = .ok (.iload_n 1, 1) := by decide +kernel
theorem dX7_voiceThen_64 : decode cX7_voiceThen 64 = .ok (.iaload, 1) := by decide +kernel
theorem dX7_voiceThen_65 : decode cX7_voiceThen 65 = .ok (.iconst 1, 1) := by decide +kernel
theorem dX7_voiceThen_66 : decode cX7_voiceThen 66 = .ok (.if_icmp .ne 19, 3) := by decide +kernel
theorem dX7_voiceThen_69 : decode cX7_voiceThen 69 = .ok (.aload_n 0, 1) := by decide +kernel
theorem dX7_voiceThen_70 : decode cX7_voiceThen 70 = .ok (.iload_n 1, 1) := by decide +kernel
theorem dX7_voiceThen_71 : decode cX7_voiceThen 71 = .ok (.iconst 2, 1) := by decide +kernel
theorem dX7_voiceThen_72 : decode cX7_voiceThen 72 = .ok (.iload_n 3, 1) := by decide +kernel
theorem dX7_voiceThen_73 : decode cX7_voiceThen 73 = .ok (.imul, 1) := by decide +kernel
theorem dX7_voiceThen_74 : decode cX7_voiceThen 74 = .ok (.iload_n 2, 1) := by decide +kernel
theorem dX7_voiceThen_75 : decode cX7_voiceThen 75 = .ok (.invokevirtual 182, 3) := by decide +kernel
theorem dX7_voiceThen_78 : decode cX7_voiceThen 78 = .ok (.ifCond .eq 7, 3) := by decide +kernel
theorem dX7_voiceThen_81 : decode cX7_voiceThen 81 = .ok (.iconst 1, 1) := by decide +kernel
theorem dX7_voiceThen_82 : decode cX7_voiceThen 82 = .ok (.goto 4, 3) := by decide +kernel
theorem dX7_voiceThen_85 : decode cX7_voiceThen 85 = .ok (.iconst 0, 1) := by decide +kernel
theorem dX7_voiceThen_86 : decode cX7_voiceThen 86 = .ok (.istore 4, 2) := by decide +kernel
theorem dX7_voiceThen_88 : decode cX7_voiceThen 88 = .ok (.aload_n 0, 1) := by decide +kernel
theorem dX7_voiceThen_89 : decode cX7_voiceThen 89 = .ok (.getfield 56, 3) := by decide +kernel
theorem dX7_voiceThen_92 : decode cX7_voiceThen 92 = .ok (.iload_n 1, 1) := by decide +kernel
theorem dX7_voiceThen_93 : decode cX7_voiceThen 93 = .ok (.iaload, 1) := by decide +kernel
theorem dX7_voiceThen_94 : decode cX7_voiceThen 94 = .ok (.aload_n 0, 1) := by decide +kernel
theorem dX7_voiceThen_95 : decode cX7_voiceThen 95 = .ok (.getfield 13, 3) := by decide +kernel
theorem dX7_voiceThen_98 : decode cX7_voiceThen 98 = .ok (.iload_n 1, 1) := by decide +kernel
theorem dX7_voiceThen_99 : decode cX7_voiceThen 99 = .ok (.iaload, 1) := by decide +kernel
theorem dX7_voiceThen_100 : decode cX7_voiceThen 100 = .ok (.iconst 2, 1) := by decide +kernel
theorem dX7_voiceThen_101 : decode cX7_voiceThen 101 = .ok (.if_icmp .ne 7, 3) := by decide +kernel
theorem dX7_voiceThen_104 : decode cX7_voiceThen 104 = .ok (.iconst 2, 1) := by decide +kernel
theorem dX7_voiceThen_105 : decode cX7_voiceThen 105 = .ok (.goto 4, 3) := by decide +kernel
theorem dX7_voiceThen_108 : decode cX7_voiceThen 108 = .ok (.iconst 1, 1) := by decide +kernel
theorem dX7_voiceThen_109 : decode cX7_voiceThen 109 = .ok (.iadd, 1) := by decide +kernel
theorem dX7_voiceThen_110 : decode cX7_voiceThen 110 = .ok (.istore 5, 2) := by decide +kernel
theorem dX7_voiceThen_112 : decode cX7_voiceThen 112 = .ok (.iload 4, 2) := by decide +kernel
theorem dX7_voiceThen_114 : decode cX7_voiceThen 114 = .ok (.ifCond .eq 12, 3) := by decide +kernel
theorem dX7_voiceThen_117 : decode cX7_voiceThen 117 = .ok (.aload_n 0, 1) := by decide +kernel
theorem dX7_voiceThen_118 : decode cX7_voiceThen 118 = .ok (.getfield 56, 3) := by decide +kernel
theorem dX7_voiceThen_121 : decode cX7_voiceThen 121 = .ok (.iload_n 1, 1) := by decide +kernel
theorem dX7_voiceThen_122 : decode cX7_voiceThen 122 = .ok (.iaload, 1) := by decide +kernel
theorem dX7_voiceThen_123 : decode cX7_voiceThen 123 = .ok (.goto 17, 3) := by decide +kernel
theorem dX7_voiceThen_126 : decode cX7_voiceThen 126 = .ok (.iload 5, 2) := by decide +kernel
theorem dX7_voiceThen_128 : decode cX7_voiceThen 128 = .ok (.bipush 9, 2) := by decide +kernel
theorem dX7_voiceThen_130 : decode cX7_voiceThen 130 = .ok (.if_icmp .le 8, 3) := by decide +kernel
theorem dX7_voiceThen_133 : decode cX7_voiceThen 133 = .ok (.bipush 9, 2) := by decide +kernel
theorem dX7_voiceThen_135 : decode cX7_voiceThen 135 = .ok (.goto 5, 3) := by decide +kernel
theorem dX7_voiceThen_138 : decode cX7_voiceThen 138 = .ok (.iload 5, 2) := by decide +kernel
theorem dX7_voiceThen_140 : decode cX7_voiceThen 140 = .ok (.ireturn, 1) := by decide +kernel
theorem dX7_voiceThen_141 : decode cX7_voiceThen 141 = .ok (.aload_n 0, 1) := by decide +kernel
theorem dX7_voiceThen_142 : decode cX7_voiceThen 142 = .ok (.getfield 56, 3) := by decide +kernel
theorem dX7_voiceThen_145 : decode cX7_voiceThen 145 = .ok (.iload_n 1, 1) := by decide +kernel
theorem dX7_voiceThen_146 : decode cX7_voiceThen 146 = .ok (.iaload, 1) := by decide +kernel
theorem dX7_voiceThen_147 : decode cX7_voiceThen 147 = .ok (.iconst 1, 1) := by decide +kernel
theorem dX7_voiceThen_148 : decode cX7_voiceThen 148 = .ok (.if_icmp .le 31, 3) := by decide +kernel
theorem dX7_voiceThen_151 : decode cX7_voiceThen 151 = .ok (.aload_n 0, 1) := by decide +kernel
theorem dX7_voiceThen_152 : decode cX7_voiceThen 152 = .ok (.iload_n 1, 1) := by decide +kernel
theorem dX7_voiceThen_153 : decode cX7_voiceThen 153 = .ok (.aload_n 0, 1) := by decide +kernel
theorem dX7_voiceThen_154 : decode cX7_voiceThen 154 = .ok (.iload_n 1, 1) := by decide +kernel
theorem dX7_voiceThen_155 : decode cX7_voiceThen 155 = .ok (.iconst 1, 1) := by decide +kernel
theorem dX7_voiceThen_156 : decode cX7_voiceThen 156 = .ok (.aload_n 0, 1) := by decide +kernel
theorem dX7_voiceThen_157 : decode cX7_voiceThen 157 = .ok (.getfield 56, 3) := by decide +kernel
theorem dX7_voiceThen_160 : decode cX7_voiceThen 160 = .ok (.iload_n 1, 1) := by decide +kernel
theorem dX7_voiceThen_161 : decode cX7_voiceThen 161 = .ok (.iaload, 1) := by decide +kernel
theorem dX7_voiceThen_162 : decode cX7_voiceThen 162 = .ok (.iconst 1, 1) := by decide +kernel
theorem dX7_voiceThen_163 : decode cX7_voiceThen 163 = .ok (.isub, 1) := by decide +kernel
theorem dX7_voiceThen_164 : decode cX7_voiceThen 164 = .ok (.ishl, 1) := by decide +kernel
theorem dX7_voiceThen_165 : decode cX7_voiceThen 165 = .ok (.invokevirtual 176, 3) := by decide +kernel
theorem dX7_voiceThen_168 : decode cX7_voiceThen 168 = .ok (.iload_n 2, 1) := by decide +kernel
theorem dX7_voiceThen_169 : decode cX7_voiceThen 169 = .ok (.invokevirtual 182, 3) := by decide +kernel
theorem dX7_voiceThen_172 : decode cX7_voiceThen 172 = .ok (.ifCond .eq 7, 3) := by decide +kernel
theorem dX7_voiceThen_175 : decode cX7_voiceThen 175 = .ok (.iconst 1, 1) := by decide +kernel
theorem dX7_voiceThen_176 : decode cX7_voiceThen 176 = .ok (.goto 4, 3) := by decide +kernel
theorem dX7_voiceThen_179 : decode cX7_voiceThen 179 = .ok (.iconst 0, 1) := by decide +kernel
theorem dX7_voiceThen_180 : decode cX7_voiceThen 180 = .ok (.istore 4, 2) := by decide +kernel
theorem dX7_voiceThen_182 : decode cX7_voiceThen 182 = .ok (.iload 4, 2) := by decide +kernel
theorem dX7_voiceThen_184 : decode cX7_voiceThen 184 = .ok (.ifCond .eq 14, 3) := by decide +kernel
theorem dX7_voiceThen_187 : decode cX7_voiceThen 187 = .ok (.aload_n 0, 1) := by decide +kernel
theorem dX7_voiceThen_188 : decode cX7_voiceThen 188 = .ok (.getfield 56, 3) := by decide +kernel
theorem dX7_voiceThen_191 : decode cX7_voiceThen 191 = .ok (.iload_n 1, 1) := by decide +kernel
theorem dX7_voiceThen_192 : decode cX7_voiceThen 192 = .ok (.iaload, 1) := by decide +kernel
theorem dX7_voiceThen_193 : decode cX7_voiceThen 193 = .ok (.iconst 1, 1) := by decide +kernel
theorem dX7_voiceThen_194 : decode cX7_voiceThen 194 = .ok (.isub, 1) := by decide +kernel
theorem dX7_voiceThen_195 : decode cX7_voiceThen 195 = .ok (.goto 9, 3) := by decide +kernel
theorem dX7_voiceThen_198 : decode cX7_voiceThen 198 = .ok (.aload_n 0, 1) := by decide +kernel
theorem dX7_voiceThen_199 : decode cX7_voiceThen 199 = .ok (.getfield 56, 3) := by decide +kernel
theorem dX7_voiceThen_202 : decode cX7_voiceThen 202 = .ok (.iload_n 1, 1) := by decide +kernel
theorem dX7_voiceThen_203 : decode cX7_voiceThen 203 = .ok (.iaload, 1) := by decide +kernel
theorem dX7_voiceThen_204 : decode cX7_voiceThen 204 = .ok (.ireturn, 1) := by decide +kernel
set_option maxRecDepth 20000 in
theorem ggX7_musicThen_X7_echo : GoodIn wsX7_musicThen wsX7_echo := goodIn_r _ [7, 8, 9, 10, 11, 6, 12, 13, 14, 15, 16, 17, 18, 19, 20, 21, 22, 23, 24, 25, 26, 27, 2, 28, 29, 30, 31, 32, 33, 34, 35, 36, 37, 38, 39, 40, 41, 42, 43, 44, 45, 46, 47, 48, 49, 50, 51, 52, 53, 54, 55, 56, 57, 58, 59, 60, 61, 62, 63, 64, 65, 66, 67] (by decide +kernel) (by decide +kernel)
set_option maxRecDepth 20000 in
theorem gX7_musicThen_X7_echo : GoodIn wsX7_musicThen (wsV RX7 170 RX7 yX7_echo wsX7_echo) := goodIn_app (goodIn_of _ (by decide +kernel)) ggX7_musicThen_X7_echo
set_option maxRecDepth 20000 in
theorem ggX7_musicThen_X7_loudMusic : GoodIn wsX7_musicThen wsX7_loudMusic := goodIn_r _ [27, 2, 28, 29, 30, 31, 32, 33, 34, 35, 36, 37, 38, 39, 40, 41, 42, 43, 44, 45, 46, 47, 48, 49, 50, 51, 52, 53, 54, 55, 56, 57, 58, 59, 60, 61, 62, 63, 64, 65, 66, 67] (by decide +kernel) (by decide +kernel)
set_option maxRecDepth 20000 in
theorem gX7_musicThen_X7_loudMusic : GoodIn wsX7_musicThen (wsV RX7 164 RX7 yX7_loudMusic wsX7_loudMusic) := goodIn_app (goodIn_of _ (by decide +kernel)) ggX7_musicThen_X7_loudMusic
theorem dX7_musicThen_0 : decode cX7_musicThen 0 = .ok (.aload_n 0, 1) := by decide +kernel
theorem dX7_musicThen_1 : decode cX7_musicThen 1 = .ok (.invokevirtual 170, 3) := by decide +kernel
theorem dX7_musicThen_4 : decode cX7_musicThen 4 = .ok (.istore_n 1, 1) := by decide +kernel
theorem dX7_musicThen_5 : decode cX7_musicThen 5 = .ok (.aload_n 0, 1) := by decide +kernel
theorem dX7_musicThen_6 : decode cX7_musicThen 6 = .ok (.getfield 150, 3) := by decide +kernel
theorem dX7_musicThen_9 : decode cX7_musicThen 9 = .ok (.ifCond .eq 11, 3) := by decide +kernel
theorem dX7_musicThen_12 : decode cX7_musicThen 12 = .ok (.iload_n 1, 1) := by decide +kernel
theorem dX7_musicThen_13 : decode cX7_musicThen 13 = .ok (.aload_n 0, 1) := by decide +kernel
theorem dX7_musicThen_14 : decode cX7_musicThen 14 = .ok (.invokevirtual 164, 3) := by decide +kernel
theorem dX7_musicThen_17 : decode cX7_musicThen 17 = .ok (.if_icmp .ne 8, 3) := by decide +kernel
theorem dX7_musicThen_20 : decode cX7_musicThen 20 = .ok (.aload_n 0, 1) := by decide +kernel
theorem dX7_musicThen_21 : decode cX7_musicThen 21 = .ok (.getfield 138, 3) := by decide +kernel
theorem dX7_musicThen_24 : decode cX7_musicThen 24 = .ok (.ireturn, 1) := by decide +kernel
theorem dX7_musicThen_25 : decode cX7_musicThen 25 = .ok (.iload_n 1, 1) := by decide +kernel
theorem dX7_musicThen_26 : decode cX7_musicThen 26 = .ok (.aload_n 0, 1) := by decide +kernel
theorem dX7_musicThen_27 : decode cX7_musicThen 27 = .ok (.invokevirtual 164, 3) := by decide +kernel
theorem dX7_musicThen_30 : decode cX7_musicThen 30 = .ok (.if_icmp .le 26, 3) := by decide +kernel
theorem dX7_musicThen_33 : decode cX7_musicThen 33 = .ok (.aload_n 0, 1) := by decide +kernel
theorem dX7_musicThen_34 : decode cX7_musicThen 34 = .ok (.getfield 138, 3) := by decide +kernel
theorem dX7_musicThen_37 : decode cX7_musicThen 37 = .ok (.bipush 9, 2) := by decide +kernel
theorem dX7_musicThen_39 : decode cX7_musicThen 39 = .ok (.if_icmp .ge 12, 3) := by decide +kernel
theorem dX7_musicThen_42 : decode cX7_musicThen 42 = .ok (.aload_n 0, 1) := by decide +kernel
theorem dX7_musicThen_43 : decode cX7_musicThen 43 = .ok (.getfield 138, 3) := by decide +kernel
theorem dX7_musicThen_46 : decode cX7_musicThen 46 = .ok (.iconst 1, 1) := by decide +kernel
theorem dX7_musicThen_47 : decode cX7_musicThen 47 = .ok (.iadd, 1) := by decide +kernel
theorem dX7_musicThen_48 : decode cX7_musicThen 48 = .ok (.goto 25, 3) := by decide +kernel
theorem dX7_musicThen_51 : decode cX7_musicThen 51 = .ok (.bipush 9, 2) := by decide +kernel
theorem dX7_musicThen_53 : decode cX7_musicThen 53 = .ok (.goto 20, 3) := by decide +kernel
theorem dX7_musicThen_56 : decode cX7_musicThen 56 = .ok (.aload_n 0, 1) := by decide +kernel
theorem dX7_musicThen_57 : decode cX7_musicThen 57 = .ok (.getfield 138, 3) := by decide +kernel
theorem dX7_musicThen_60 : decode cX7_musicThen 60 = .ok (.ifCond .le 12, 3) := by decide +kernel
theorem dX7_musicThen_63 : decode cX7_musicThen 63 = .ok (.aload_n 0, 1) := by decide +kernel
theorem dX7_musicThen_64 : decode cX7_musicThen 64 = .ok (.getfield 138, 3) := by decide +kernel
theorem dX7_musicThen_67 : decode cX7_musicThen 67 = .ok (.iconst 1, 1) := by decide +kernel
theorem dX7_musicThen_68 : decode cX7_musicThen 68 = .ok (.isub, 1) := by decide +kernel
theorem dX7_musicThen_69 : decode cX7_musicThen 69 = .ok (.goto 4, 3) := by decide +kernel
theorem dX7_musicThen_72 : decode cX7_musicThen 72 = .ok (.iconst 0, 1) := by decide +kernel
theorem dX7_musicThen_73 : decode cX7_musicThen 73 = .ok (.ireturn, 1) := by decide +kernel
set_option maxRecDepth 20000 in
theorem ggX7_go_X7_musicThen : GoodIn wsX7_go wsX7_musicThen := goodIn_r _ [9, 10, 4, 11, 12, 13, 8, 14, 15, 16, 17, 18, 19, 1, 20, 21, 22, 23, 24, 25, 3, 26, 27, 28, 29, 30, 31, 32, 59, 60, 61, 62, 63, 64, 65, 66, 67, 68, 69, 70, 71, 72, 73, 74, 75, 76, 77, 78, 79, 80, 81, 82, 83, 84, 85, 86, 87, 88, 89, 90, 91, 92, 93, 94, 95, 96, 97, 98] (by decide +kernel) (by decide +kernel)
set_option maxRecDepth 20000 in
theorem gX7_go_X7_musicThen : GoodIn wsX7_go (wsV RX7 189 RX7 yX7_musicThen wsX7_musicThen) := goodIn_app (goodIn_of _ (by decide +kernel)) ggX7_go_X7_musicThen
set_option maxRecDepth 20000 in
theorem ggX7_go_X7_voiceThen : GoodIn wsX7_go wsX7_voiceThen := goodIn_r _ [36, 24, 37, 3, 38, 39, 40, 41, 8, 42, 1, 11, 12, 13, 14, 15, 16, 17, 18, 19, 20, 21, 22, 23, 25, 26, 27, 28, 29, 30, 31, 32, 4, 43, 44, 45, 46, 47, 48, 49, 50, 51, 52, 53, 54, 55, 56, 57, 58, 59, 60, 61, 62, 63, 64, 65, 66, 67, 68, 69, 70, 71, 72, 73, 74, 75, 76, 77, 78, 79, 80, 81, 82, 83, 84, 85, 86, 87, 88, 89, 90, 91, 92, 93, 94, 95, 96, 97, 98] (by decide +kernel) (by decide +kernel)
set_option maxRecDepth 20000 in
theorem gX7_go_X7_voiceThen : GoodIn wsX7_go (wsV RX7 192 RX7 yX7_voiceThen wsX7_voiceThen) := goodIn_app (goodIn_of _ (by decide +kernel)) ggX7_go_X7_voiceThen
theorem dX7_go_0 : decode cX7_go 0 = .ok (.iconst 0, 1) := by decide +kernel
theorem dX7_go_1 : decode cX7_go 1 = .ok (.istore_n 1, 1) := by decide +kernel
theorem dX7_go_2 : decode cX7_go 2 = .ok (.aload_n 0, 1) := by decide +kernel
theorem dX7_go_3 : decode cX7_go 3 = .ok (.invokevirtual 189, 3) := by decide +kernel
theorem dX7_go_6 : decode cX7_go 6 = .ok (.istore_n 2, 1) := by decide +kernel
theorem dX7_go_7 : decode cX7_go 7 = .ok (.iconst 0, 1) := by decide +kernel
theorem dX7_go_8 : decode cX7_go 8 = .ok (.istore_n 3, 1) := by decide +kernel
theorem dX7_go_9 : decode cX7_go 9 = .ok (.iload_n 3, 1) := by decide +kernel
theorem dX7_go_10 : decode cX7_go 10 = .ok (.aload_n 0, 1) := by decide +kernel
theorem dX7_go_11 : decode cX7_go 11 = .ok (.getfield 141, 3) := by decide +kernel
theorem dX7_go_14 : decode cX7_go 14 = .ok (.if_icmp .ge 20, 3) := by decide +kernel
theorem dX7_go_17 : decode cX7_go 17 = .ok (.aload_n 0, 1) := by decide +kernel
theorem dX7_go_18 : decode cX7_go 18 = .ok (.getfield 59, 3) := by decide +kernel
theorem dX7_go_21 : decode cX7_go 21 = .ok (.iload_n 3, 1) := by decide +kernel
theorem dX7_go_22 : decode cX7_go 22 = .ok (.aload_n 0, 1) := by decide +kernel
theorem dX7_go_23 : decode cX7_go 23 = .ok (.iload_n 3, 1) := by decide +kernel
theorem dX7_go_24 : decode cX7_go 24 = .ok (.invokevirtual 192, 3) := by decide +kernel
theorem dX7_go_27 : decode cX7_go 27 = .ok (.iastore, 1) := by decide +kernel
theorem dX7_go_28 : decode cX7_go 28 = .ok (.iinc 3 1, 3) := by decide +kernel
theorem dX7_go_31 : decode cX7_go 31 = .ok (.goto (-22), 3) := by decide +kernel
theorem dX7_go_34 : decode cX7_go 34 = .ok (.iconst 0, 1) := by decide +kernel
theorem dX7_go_35 : decode cX7_go 35 = .ok (.istore_n 3, 1) := by decide +kernel
theorem dX7_go_36 : decode cX7_go 36 = .ok (.iload_n 3, 1) := by decide +kernel
theorem dX7_go_37 : decode cX7_go 37 = .ok (.aload_n 0, 1) := by decide +kernel
theorem dX7_go_38 : decode cX7_go 38 = .ok (.getfield 141, 3) := by decide +kernel
theorem dX7_go_41 : decode cX7_go 41 = .ok (.if_icmp .ge 44, 3) := by decide +kernel
theorem dX7_go_44 : decode cX7_go 44 = .ok (.iload_n 1, 1) := by decide +kernel
theorem dX7_go_45 : decode cX7_go 45 = .ok (.aload_n 0, 1) := by decide +kernel
theorem dX7_go_46 : decode cX7_go 46 = .ok (.getfield 59, 3) := by decide +kernel
theorem dX7_go_49 : decode cX7_go 49 = .ok (.iload_n 3, 1) := by decide +kernel
theorem dX7_go_50 : decode cX7_go 50 = .ok (.iaload, 1) := by decide +kernel
theorem dX7_go_51 : decode cX7_go 51 = .ok (.aload_n 0, 1) := by decide +kernel
theorem dX7_go_52 : decode cX7_go 52 = .ok (.getfield 56, 3) := by decide +kernel
theorem dX7_go_55 : decode cX7_go 55 = .ok (.iload_n 3, 1) := by decide +kernel
theorem dX7_go_56 : decode cX7_go 56 = .ok (.iaload, 1) := by decide +kernel
theorem dX7_go_57 : decode cX7_go 57 = .ok (.if_icmp .ne 7, 3) := by decide +kernel
theorem dX7_go_60 : decode cX7_go 60 = .ok (.iconst 0, 1) := by decide +kernel
theorem dX7_go_61 : decode cX7_go 61 = .ok (.goto 4, 3) := by decide +kernel
theorem dX7_go_64 : decode cX7_go 64 = .ok (.iconst 1, 1) := by decide +kernel
theorem dX7_go_65 : decode cX7_go 65 = .ok (.iadd, 1) := by decide +kernel
theorem dX7_go_66 : decode cX7_go 66 = .ok (.istore_n 1, 1) := by decide +kernel
theorem dX7_go_67 : decode cX7_go 67 = .ok (.aload_n 0, 1) := by decide +kernel
theorem dX7_go_68 : decode cX7_go 68 = .ok (.getfield 56, 3) := by decide +kernel
theorem dX7_go_71 : decode cX7_go 71 = .ok (.iload_n 3, 1) := by decide +kernel
theorem dX7_go_72 : decode cX7_go 72 = .ok (.aload_n 0, 1) := by decide +kernel
theorem dX7_go_73 : decode cX7_go 73 = .ok (.getfield 59, 3) := by decide +kernel
theorem dX7_go_76 : decode cX7_go 76 = .ok (.iload_n 3, 1) := by decide +kernel
theorem dX7_go_77 : decode cX7_go 77 = .ok (.iaload, 1) := by decide +kernel
theorem dX7_go_78 : decode cX7_go 78 = .ok (.iastore, 1) := by decide +kernel
theorem dX7_go_79 : decode cX7_go 79 = .ok (.iinc 3 1, 3) := by decide +kernel
theorem dX7_go_82 : decode cX7_go 82 = .ok (.goto (-46), 3) := by decide +kernel
theorem dX7_go_85 : decode cX7_go 85 = .ok (.iload_n 1, 1) := by decide +kernel
theorem dX7_go_86 : decode cX7_go 86 = .ok (.ifCond .ne 15, 3) := by decide +kernel
theorem dX7_go_89 : decode cX7_go 89 = .ok (.iload_n 2, 1) := by decide +kernel
theorem dX7_go_90 : decode cX7_go 90 = .ok (.aload_n 0, 1) := by decide +kernel
theorem dX7_go_91 : decode cX7_go 91 = .ok (.getfield 138, 3) := by decide +kernel
theorem dX7_go_94 : decode cX7_go 94 = .ok (.if_icmp .eq 7, 3) := by decide +kernel
theorem dX7_go_97 : decode cX7_go 97 = .ok (.iconst 1, 1) := by decide +kernel
theorem dX7_go_98 : decode cX7_go 98 = .ok (.goto 4, 3) := by decide +kernel
theorem dX7_go_101 : decode cX7_go 101 = .ok (.iconst 0, 1) := by decide +kernel
theorem dX7_go_102 : decode cX7_go 102 = .ok (.istore_n 3, 1) := by decide +kernel
theorem dX7_go_103 : decode cX7_go 103 = .ok (.aload_n 0, 1) := by decide +kernel
theorem dX7_go_104 : decode cX7_go 104 = .ok (.iload_n 2, 1) := by decide +kernel
theorem dX7_go_105 : decode cX7_go 105 = .ok (.putfield 138, 3) := by decide +kernel
theorem dX7_go_108 : decode cX7_go 108 = .ok (.iload_n 3, 1) := by decide +kernel
theorem dX7_go_109 : decode cX7_go 109 = .ok (.ifCond .eq 7, 3) := by decide +kernel
theorem dX7_go_112 : decode cX7_go 112 = .ok (.iconst (-1), 1) := by decide +kernel
theorem dX7_go_113 : decode cX7_go 113 = .ok (.goto 4, 3) := by decide +kernel
theorem dX7_go_116 : decode cX7_go 116 = .ok (.iload_n 1, 1) := by decide +kernel
theorem dX7_go_117 : decode cX7_go 117 = .ok (.ireturn, 1) := by decide +kernel
set_option maxRecDepth 20000 in
theorem ggX7_about_X7_begin : GoodIn wsX7_about wsX7_begin := goodIn_r _ [14, 2, 15, 16, 5, 17, 18, 4, 19, 20, 21, 22, 68, 69, 70, 71, 72, 73, 74, 75, 76, 77, 78, 79, 80, 81, 82, 83, 84, 85, 86, 87, 88, 89, 90, 91, 92, 93, 94, 95, 96, 97, 98, 99, 100, 101, 102, 103, 104, 105, 106, 107] (by decide +kernel) (by decide +kernel)
set_option maxRecDepth 20000 in
theorem gX7_about_X7_begin : GoodIn wsX7_about (wsV RX7 195 RX7 yX7_begin wsX7_begin) := goodIn_app (goodIn_of _ (by decide +kernel)) ggX7_about_X7_begin
set_option maxRecDepth 20000 in
theorem ggX7_about_X7_hears : GoodIn wsX7_about wsX7_hears := goodIn_r _ [26, 27, 28, 29, 30, 13, 31, 3, 20, 15, 32, 33, 34, 35, 36, 37, 38, 39, 40, 41, 42, 43, 18, 44, 45, 46, 47, 19, 48, 49, 50, 51, 52, 53, 54, 55, 17, 56, 57, 58, 59, 60, 61, 62, 63, 64, 65, 66, 67, 68, 69, 70, 71, 72, 73, 74, 75, 76, 77, 78, 79, 80, 81, 82, 83, 84, 85, 86, 87, 88, 89, 90, 91, 92, 93, 94, 95, 96, 97, 98, 99, 100, 101, 102, 103, 104, 105, 106, 107] (by decide +kernel) (by decide +kernel)
set_option maxRecDepth 20000 in
theorem gX7_about_X7_hears : GoodIn wsX7_about (wsV RX7 186 RX7 yX7_hears wsX7_hears) := goodIn_app (goodIn_of _ (by decide +kernel)) ggX7_about_X7_hears
set_option maxRecDepth 20000 in
theorem ggX7_about_X7_echo : GoodIn wsX7_about wsX7_echo := goodIn_r _ [47, 19, 48, 49, 50, 13, 51, 18, 28, 29, 30, 31, 3, 20, 15, 32, 33, 34, 52, 53, 54, 55, 17, 68, 69, 70, 71, 72, 73, 74, 75, 76, 77, 78, 79, 80, 81, 82, 83, 84, 85, 86, 87, 88, 89, 90, 91, 92, 93, 94, 95, 96, 97, 98, 99, 100, 101, 102, 103, 104, 105, 106, 107] (by decide +kernel) (by decide +kernel)
set_option maxRecDepth 20000 in
theorem gX7_about_X7_echo : GoodIn wsX7_about (wsV RX7 170 RX7 yX7_echo wsX7_echo) := goodIn_app (goodIn_of _ (by decide +kernel)) ggX7_about_X7_echo
set_option maxRecDepth 20000 in
theorem ggX7_about_X7_loudAll : GoodIn wsX7_about wsX7_loudAll := goodIn_r _ [51, 18, 28, 29, 30, 13, 31, 3, 20, 15, 32, 33, 34, 68, 69, 70, 71, 72, 73, 74, 75, 76, 77, 78, 79, 80, 81, 82, 83, 84, 85, 86, 87, 88, 89, 90, 91, 92, 93, 94, 95, 96, 97, 98, 99, 100, 101, 102, 103, 104, 105, 106, 107] (by decide +kernel) (by decide +kernel)
set_option maxRecDepth 20000 in
theorem gX7_about_X7_loudAll : GoodIn wsX7_about (wsV RX7 161 RX7 yX7_loudAll wsX7_loudAll) := goodIn_app (goodIn_of _ (by decide +kernel)) ggX7_about_X7_loudAll
theorem dX7_about_0 : decode cX7_about 0 = .ok (.aload_n 0, 1) := by decide +kernel
theorem dX7_about_1 : decode cX7_about 1 = .ok (.iconst 0, 1) := by decide +kernel
theorem dX7_about_2 : decode cX7_about 2 = .ok (.putfield 71, 3) := by decide +kernel
theorem dX7_about_5 : decode cX7_about 5 = .ok (.aload_n 0, 1) := by decide +kernel
theorem dX7_about_6 : decode cX7_about 6 = .ok (.invokevirtual 195, 3) := by decide +kernel
theorem dX7_about_9 : decode cX7_about 9 = .ok (.iconst 0, 1) := by decide +kernel
theorem dX7_about_10 : decode cX7_about 10 = .ok (.istore_n 2, 1) := by decide +kernel
theorem dX7_about_11 : decode cX7_about 11 = .ok (.iconst 0, 1) := by decide +kernel
theorem dX7_about_12 : decode cX7_about 12 = .ok (.istore_n 3, 1) := by decide +kernel
theorem dX7_about_13 : decode cX7_about 13 = .ok (.iconst 0, 1) := by decide +kernel
theorem dX7_about_14 : decode cX7_about 14 = .ok (.istore 4, 2) := by decide +kernel
theorem dX7_about_16 : decode cX7_about 16 = .ok (.iload 4, 2) := by decide +kernel
theorem dX7_about_18 : decode cX7_about 18 = .ok (.aload_n 0, 1) := by decide +kernel
theorem dX7_about_19 : decode cX7_about 19 = .ok (.getfield 75, 3) := by decide +kernel
theorem dX7_about_22 : decode cX7_about 22 = .ok (.if_icmp .ge 39, 3) := by decide +kernel
theorem dX7_about_25 : decode cX7_about 25 = .ok (.iload_n 2, 1) := by decide +kernel
theorem dX7_about_26 : decode cX7_about 26 = .ok (.aload_n 0, 1) := by decide +kernel
theorem dX7_about_27 : decode cX7_about 27 = .ok (.getfield 19, 3) := by decide +kernel
theorem dX7_about_30 : decode cX7_about 30 = .ok (.iload 4, 2) := by decide +kernel
theorem dX7_about_32 : decode cX7_about 32 = .ok (.iaload, 1) := by decide +kernel
theorem dX7_about_33 : decode cX7_about 33 = .ok (.iadd, 1) := by decide +kernel
theorem dX7_about_34 : decode cX7_about 34 = .ok (.istore_n 2, 1) := by decide +kernel
theorem dX7_about_35 : decode cX7_about 35 = .ok (.iload_n 3, 1) := by decide +kernel
theorem dX7_about_36 : decode cX7_about 36 = .ok (.aload_n 0, 1) := by decide +kernel
theorem dX7_about_37 : decode cX7_about 37 = .ok (.iload 4, 2) := by decide +kernel
theorem dX7_about_39 : decode cX7_about 39 = .ok (.invokevirtual 186, 3) := by decide +kernel
theorem dX7_about_42 : decode cX7_about 42 = .ok (.ifCond .eq 10, 3) := by decide +kernel
theorem dX7_about_45 : decode cX7_about 45 = .ok (.iconst 1, 1) := by decide +kernel
theorem dX7_about_46 : decode cX7_about 46 = .ok (.iload 4, 2) := by decide +kernel
theorem dX7_about_48 : decode cX7_about 48 = .ok (.ishl, 1) := by decide +kernel
theorem dX7_about_49 : decode cX7_about 49 = .ok (.goto 4, 3) := by decide +kernel
theorem dX7_about_52 : decode cX7_about 52 = .ok (.iconst 0, 1) := by decide +kernel
theorem dX7_about_53 : decode cX7_about 53 = .ok (.ior, 1) := by decide +kernel
theorem dX7_about_54 : decode cX7_about 54 = .ok (.istore_n 3, 1) := by decide +kernel
theorem dX7_about_55 : decode cX7_about 55 = .ok (.iinc 4 1, 3) := by decide +kernel
theorem dX7_about_58 : decode cX7_about 58 = .ok (.goto (-42), 3) := by decide +kernel
theorem dX7_about_61 : decode cX7_about 61 = .ok (.iload_n 1, 1) := by decide +kernel
theorem dX7_about_62 : decode cX7_about 62 = .ok (.tableswitch 107 0 10 #[58, 63, 65, 70, 75, 80, 85, 87, 92, 97, 102], 58) := by decide +kernel
theorem dX7_about_120 : decode cX7_about 120 = .ok (.aload_n 0, 1) := by decide +kernel
theorem dX7_about_121 : decode cX7_about 121 = .ok (.getfield 75, 3) := by decide +kernel
theorem dX7_about_124 : decode cX7_about 124 = .ok (.ireturn, 1) := by decide +kernel
theorem dX7_about_125 : decode cX7_about 125 = .ok (.iload_n 2, 1) := by decide +kernel
theorem dX7_about_126 : decode cX7_about 126 = .ok (.ireturn, 1) := by decide +kernel
theorem dX7_about_127 : decode cX7_about 127 = .ok (.aload_n 0, 1) := by decide +kernel
theorem dX7_about_128 : decode cX7_about 128 = .ok (.getfield 125, 3) := by decide +kernel
theorem dX7_about_131 : decode cX7_about 131 = .ok (.ireturn, 1) := by decide +kernel
theorem dX7_about_132 : decode cX7_about 132 = .ok (.aload_n 0, 1) := by decide +kernel
theorem dX7_about_133 : decode cX7_about 133 = .ok (.getfield 128, 3) := by decide +kernel
theorem dX7_about_136 : decode cX7_about 136 = .ok (.ireturn, 1) := by decide +kernel
theorem dX7_about_137 : decode cX7_about 137 = .ok (.aload_n 0, 1) := by decide +kernel
theorem dX7_about_138 : decode cX7_about 138 = .ok (.invokevirtual 170, 3) := by decide +kernel
theorem dX7_about_141 : decode cX7_about 141 = .ok (.ireturn, 1) := by decide +kernel
theorem dX7_about_142 : decode cX7_about 142 = .ok (.aload_n 0, 1) := by decide +kernel
theorem dX7_about_143 : decode cX7_about 143 = .ok (.invokevirtual 161, 3) := by decide +kernel
theorem dX7_about_146 : decode cX7_about 146 = .ok (.ireturn, 1) := by decide +kernel
theorem dX7_about_147 : decode cX7_about 147 = .ok (.iload_n 3, 1) := by decide +kernel
theorem dX7_about_148 : decode cX7_about 148 = .ok (.ireturn, 1) := by decide +kernel
theorem dX7_about_149 : decode cX7_about 149 = .ok (.aload_n 0, 1) := by decide +kernel
theorem dX7_about_150 : decode cX7_about 150 = .ok (.getfield 122, 3) := by decide +kernel
theorem dX7_about_153 : decode cX7_about 153 = .ok (.ireturn, 1) := by decide +kernel
theorem dX7_about_154 : decode cX7_about 154 = .ok (.aload_n 0, 1) := by decide +kernel
theorem dX7_about_155 : decode cX7_about 155 = .ok (.getfield 135, 3) := by decide +kernel
theorem dX7_about_158 : decode cX7_about 158 = .ok (.ireturn, 1) := by decide +kernel
theorem dX7_about_159 : decode cX7_about 159 = .ok (.aload_n 0, 1) := by decide +kernel
theorem dX7_about_160 : decode cX7_about 160 = .ok (.getfield 198, 3) := by decide +kernel
theorem dX7_about_163 : decode cX7_about 163 = .ok (.ireturn, 1) := by decide +kernel
theorem dX7_about_164 : decode cX7_about 164 = .ok (.aload_n 0, 1) := by decide +kernel
theorem dX7_about_165 : decode cX7_about 165 = .ok (.getfield 84, 3) := by decide +kernel
theorem dX7_about_168 : decode cX7_about 168 = .ok (.ireturn, 1) := by decide +kernel
theorem dX7_about_169 : decode cX7_about 169 = .ok (.bipush (-2), 2) := by decide +kernel
theorem dX7_about_171 : decode cX7_about 171 = .ok (.ireturn, 1) := by decide +kernel
set_option maxRecDepth 20000 in
theorem ggX7_ring_X7_noRing : GoodIn wsX7_ring wsX7_noRing := goodIn_r _ [11, 12, 13, 14, 10, 15, 71, 72, 73, 74, 75, 76, 77, 78, 79, 80, 81, 82, 83, 84, 85, 86, 87, 88, 89, 90, 91, 92, 93, 94, 95, 96, 97, 98, 99, 100, 101, 102, 103, 104, 105, 106, 107, 108, 109, 110] (by decide +kernel) (by decide +kernel)
set_option maxRecDepth 20000 in
theorem gX7_ring_X7_noRing : GoodIn wsX7_ring (wsV RX7 201 RX7 yX7_noRing wsX7_noRing) := goodIn_app (goodIn_of _ (by decide +kernel)) ggX7_ring_X7_noRing
set_option maxRecDepth 20000 in
theorem ggX7_ring_X7_begin : GoodIn wsX7_ring wsX7_begin := goodIn_r _ [19, 12, 20, 5, 21, 22, 23, 24, 25, 26, 27, 28, 71, 72, 73, 74, 75, 76, 77, 78, 79, 80, 81, 82, 83, 84, 85, 86, 87, 88, 89, 90, 91, 92, 93, 94, 95, 96, 97, 98, 99, 100, 101, 102, 103, 104, 105, 106, 107, 108, 109, 110] (by decide +kernel) (by decide +kernel)
set_option maxRecDepth 20000 in
theorem gX7_ring_X7_begin : GoodIn wsX7_ring (wsV RX7 195 RX7 yX7_begin wsX7_begin) := goodIn_app (goodIn_of _ (by decide +kernel)) ggX7_ring_X7_begin
set_option maxRecDepth 20000 in
theorem ggX7_ring_X7_loudOf : GoodIn wsX7_ring wsX7_loudOf := goodIn_r _ [32, 4, 26, 20, 33, 34, 10, 35, 71, 72, 73, 74, 75, 76, 77, 78, 79, 80, 81, 82, 83, 84, 85, 86, 87, 88, 89, 90, 91, 92, 93, 94, 95, 96, 97, 98, 99, 100, 101, 102, 103, 104, 105, 106, 107, 108, 109, 110] (by decide +kernel) (by decide +kernel)
set_option maxRecDepth 20000 in
theorem gX7_ring_X7_loudOf : GoodIn wsX7_ring (wsV RX7 157 RX7 yX7_loudOf wsX7_loudOf) := goodIn_app (goodIn_of _ (by decide +kernel)) ggX7_ring_X7_loudOf
set_option maxRecDepth 20000 in
theorem ggX7_ring_X7_soundOf : GoodIn wsX7_ring wsX7_soundOf := goodIn_r _ [39, 4, 2, 71, 72, 73, 74, 75, 76, 77, 78, 79, 80, 81, 82, 83, 84, 85, 86, 87, 88, 89, 90, 91, 92, 93, 94, 95, 96, 97, 98, 99, 100, 101, 102, 103, 104, 105, 106, 107, 108, 109, 110] (by decide +kernel) (by decide +kernel)
set_option maxRecDepth 20000 in
theorem gX7_ring_X7_soundOf : GoodIn wsX7_ring (wsV RX7 176 RX7 yX7_soundOf wsX7_soundOf) := goodIn_app (goodIn_of _ (by decide +kernel)) ggX7_ring_X7_soundOf
set_option maxRecDepth 20000 in
theorem ggX7_ring_X7_noiseAt : GoodIn wsX7_ring wsX7_noiseAt := goodIn_r _ [43, 23, 44, 45, 46, 10, 47, 25, 48, 49, 50, 51, 29, 30, 31, 32, 4, 26, 20, 33, 34, 35, 52, 53, 54, 55, 22, 56, 57, 58, 59, 3, 60, 61, 62, 71, 72, 73, 74, 75, 76, 77, 78, 79, 80, 81, 82, 83, 84, 85, 86, 87, 88, 89, 90, 91, 92, 93, 94, 95, 96, 97, 98, 99, 100, 101, 102, 103, 104, 105, 106, 107, 108, 109, 110] (by decide +kernel) (by decide +kernel)
set_option maxRecDepth 20000 in
theorem gX7_ring_X7_noiseAt : GoodIn wsX7_ring (wsV RX7 179 RX7 yX7_noiseAt wsX7_noiseAt) := goodIn_app (goodIn_of _ (by decide +kernel)) ggX7_ring_X7_noiseAt
set_option maxRecDepth 20000 in
theorem ggX7_ring_X7_hears : GoodIn wsX7_ring wsX7_hears := goodIn_r _ [66, 3, 29, 30, 31, 10, 32, 4, 26, 20, 33, 34, 35, 36, 37, 38, 39, 2, 40, 41, 42, 43, 23, 44, 45, 46, 47, 25, 48, 49, 50, 51, 52, 53, 54, 55, 22, 56, 57, 58, 59, 60, 61, 62, 67, 68, 69, 70, 6, 71, 72, 73, 74, 75, 76, 77, 78, 79, 80, 81, 82, 83, 84, 85, 86, 87, 88, 89, 90, 91, 92, 93, 94, 95, 96, 97, 98, 99, 100, 101, 102, 103, 104, 105, 106, 107, 108, 109, 110] (by decide +kernel) (by decide +kernel)
set_option maxRecDepth 20000 in
theorem gX7_ring_X7_hears : GoodIn wsX7_ring (wsV RX7 186 RX7 yX7_hears wsX7_hears) := goodIn_app (goodIn_of _ (by decide +kernel)) ggX7_ring_X7_hears
theorem dX7_ring_0 : decode cX7_ring 0 = .ok (.aload_n 0, 1) := by decide +kernel
theorem dX7_ring_1 : decode cX7_ring 1 = .ok (.iconst 0, 1) := by decide +kernel
theorem dX7_ring_2 : decode cX7_ring 2 = .ok (.putfield 71, 3) := by decide +kernel
theorem dX7_ring_5 : decode cX7_ring 5 = .ok (.aload_n 0, 1) := by decide +kernel
theorem dX7_ring_6 : decode cX7_ring 6 = .ok (.iload_n 1, 1) := by decide +kernel
theorem dX7_ring_7 : decode cX7_ring 7 = .ok (.invokevirtual 201, 3) := by decide +kernel
theorem dX7_ring_10 : decode cX7_ring 10 = .ok (.ifCond .eq 5, 3) := by decide +kernel
theorem dX7_ring_13 : decode cX7_ring 13 = .ok (.iconst (-1), 1) := by decide +kernel
theorem dX7_ring_14 : decode cX7_ring 14 = .ok (.ireturn, 1) := by decide +kernel
theorem dX7_ring_15 : decode cX7_ring 15 = .ok (.aload_n 0, 1) := by decide +kernel
theorem dX7_ring_16 : decode cX7_ring 16 = .ok (.invokevirtual 195, 3) := by decide +kernel
theorem dX7_ring_19 : decode cX7_ring 19 = .ok (.iload_n 2, 1) := by decide +kernel
theorem dX7_ring_20 : decode cX7_ring 20 = .ok (.tableswitch 129 0 8 #[52, 59, 66, 73, 80, 87, 93, 104, 115], 52) := by decide +kernel
theorem dX7_ring_72 : decode cX7_ring 72 = .ok (.aload_n 0, 1) := by decide +kernel
theorem dX7_ring_73 : decode cX7_ring 73 = .ok (.getfield 13, 3) := by decide +kernel
theorem dX7_ring_76 : decode cX7_ring 76 = .ok (.iload_n 1, 1) := by decide +kernel
theorem dX7_ring_77 : decode cX7_ring 77 = .ok (.iaload, 1) := by decide +kernel
theorem dX7_ring_78 : decode cX7_ring 78 = .ok (.ireturn, 1) := by decide +kernel
theorem dX7_ring_79 : decode cX7_ring 79 = .ok (.aload_n 0, 1) := by decide +kernel
theorem dX7_ring_80 : decode cX7_ring 80 = .ok (.getfield 16, 3) := by decide +kernel
theorem dX7_ring_83 : decode cX7_ring 83 = .ok (.iload_n 1, 1) := by decide +kernel
theorem dX7_ring_84 : decode cX7_ring 84 = .ok (.iaload, 1) := by decide +kernel
theorem dX7_ring_85 : decode cX7_ring 85 = .ok (.ireturn, 1) := by decide +kernel
theorem dX7_ring_86 : decode cX7_ring 86 = .ok (.aload_n 0, 1) := by decide +kernel
theorem dX7_ring_87 : decode cX7_ring 87 = .ok (.getfield 19, 3) := by decide +kernel
theorem dX7_ring_90 : decode cX7_ring 90 = .ok (.iload_n 1, 1) := by decide +kernel
theorem dX7_ring_91 : decode cX7_ring 91 = .ok (.iaload, 1) := by decide +kernel
theorem dX7_ring_92 : decode cX7_ring 92 = .ok (.ireturn, 1) := by decide +kernel
theorem dX7_ring_93 : decode cX7_ring 93 = .ok (.aload_n 0, 1) := by decide +kernel
theorem dX7_ring_94 : decode cX7_ring 94 = .ok (.getfield 22, 3) := by decide +kernel
theorem dX7_ring_97 : decode cX7_ring 97 = .ok (.iload_n 1, 1) := by decide +kernel
theorem dX7_ring_98 : decode cX7_ring 98 = .ok (.iaload, 1) := by decide +kernel
theorem dX7_ring_99 : decode cX7_ring 99 = .ok (.ireturn, 1) := by decide +kernel
theorem dX7_ring_100 : decode cX7_ring 100 = .ok (.aload_n 0, 1) := by decide +kernel
theorem dX7_ring_101 : decode cX7_ring 101 = .ok (.getfield 25, 3) := by decide +kernel
theorem dX7_ring_104 : decode cX7_ring 104 = .ok (.iload_n 1, 1) := by decide +kernel
theorem dX7_ring_105 : decode cX7_ring 105 = .ok (.iaload, 1) := by decide +kernel
theorem dX7_ring_106 : decode cX7_ring 106 = .ok (.ireturn, 1) := by decide +kernel
theorem dX7_ring_107 : decode cX7_ring 107 = .ok (.aload_n 0, 1) := by decide +kernel
theorem dX7_ring_108 : decode cX7_ring 108 = .ok (.iload_n 1, 1) := by decide +kernel
theorem dX7_ring_109 : decode cX7_ring 109 = .ok (.invokevirtual 157, 3) := by decide +kernel
theorem dX7_ring_112 : decode cX7_ring 112 = .ok (.ireturn, 1) := by decide +kernel
theorem dX7_ring_113 : decode cX7_ring 113 = .ok (.aload_n 0, 1) := by decide +kernel
theorem dX7_ring_114 : decode cX7_ring 114 = .ok (.iload_n 1, 1) := by decide +kernel
theorem dX7_ring_115 : decode cX7_ring 115 = .ok (.aload_n 0, 1) := by decide +kernel
theorem dX7_ring_116 : decode cX7_ring 116 = .ok (.iload_n 1, 1) := by decide +kernel
theorem dX7_ring_117 : decode cX7_ring 117 = .ok (.invokevirtual 157, 3) := by decide +kernel
theorem dX7_ring_120 : decode cX7_ring 120 = .ok (.invokevirtual 176, 3) := by decide +kernel
theorem dX7_ring_123 : decode cX7_ring 123 = .ok (.ireturn, 1) := by decide +kernel
theorem dX7_ring_124 : decode cX7_ring 124 = .ok (.aload_n 0, 1) := by decide +kernel
theorem dX7_ring_125 : decode cX7_ring 125 = .ok (.aload_n 0, 1) := by decide +kernel
theorem dX7_ring_126 : decode cX7_ring 126 = .ok (.getfield 16, 3) := by decide +kernel
theorem dX7_ring_129 : decode cX7_ring 129 = .ok (.iload_n 1, 1) := by decide +kernel
theorem dX7_ring_130 : decode cX7_ring 130 = .ok (.iaload, 1) := by decide +kernel
theorem dX7_ring_131 : decode cX7_ring 131 = .ok (.invokevirtual 179, 3) := by decide +kernel
theorem dX7_ring_134 : decode cX7_ring 134 = .ok (.ireturn, 1) := by decide +kernel
theorem dX7_ring_135 : decode cX7_ring 135 = .ok (.aload_n 0, 1) := by decide +kernel
theorem dX7_ring_136 : decode cX7_ring 136 = .ok (.iload_n 1, 1) := by decide +kernel
theorem dX7_ring_137 : decode cX7_ring 137 = .ok (.invokevirtual 186, 3) := by decide +kernel
theorem dX7_ring_140 : decode cX7_ring 140 = .ok (.ifCond .eq 7, 3) := by decide +kernel
theorem dX7_ring_143 : decode cX7_ring 143 = .ok (.iconst 1, 1) := by decide +kernel
theorem dX7_ring_144 : decode cX7_ring 144 = .ok (.goto 4, 3) := by decide +kernel
theorem dX7_ring_147 : decode cX7_ring 147 = .ok (.iconst 0, 1) := by decide +kernel
theorem dX7_ring_148 : decode cX7_ring 148 = .ok (.ireturn, 1) := by decide +kernel
theorem dX7_ring_149 : decode cX7_ring 149 = .ok (.bipush (-2), 2) := by decide +kernel
theorem dX7_ring_151 : decode cX7_ring 151 = .ok (.ireturn, 1) := by decide +kernel
set_option maxRecDepth 20000 in
theorem ggX7_stuff_X7_in : GoodIn wsX7_stuff wsX7_in := goodIn_r _ [8] (by decide +kernel) (by decide +kernel)
set_option maxRecDepth 20000 in
theorem gX7_stuff_X7_in : GoodIn wsX7_stuff (va_wsS RX7 78 yX7_in wsX7_in) := goodIn_app (goodIn_of _ (by decide +kernel)) ggX7_stuff_X7_in
theorem dX7_stuff_0 : decode cX7_stuff 0 = .ok (.aload_n 0, 1) := by decide +kernel
theorem dX7_stuff_1 : decode cX7_stuff 1 = .ok (.iconst 0, 1) := by decide +kernel
theorem dX7_stuff_2 : decode cX7_stuff 2 = .ok (.putfield 71, 3) := by decide +kernel
theorem dX7_stuff_5 : decode cX7_stuff 5 = .ok (.iload_n 1, 1) := by decide +kernel
theorem dX7_stuff_6 : decode cX7_stuff 6 = .ok (.i2l, 1) := by decide +kernel
theorem dX7_stuff_7 : decode cX7_stuff 7 = .ok (.lconst 0, 1) := by decide +kernel
theorem dX7_stuff_8 : decode cX7_stuff 8 = .ok (.aload_n 0, 1) := by decide +kernel
theorem dX7_stuff_9 : decode cX7_stuff 9 = .ok (.getfield 122, 3) := by decide +kernel
theorem dX7_stuff_12 : decode cX7_stuff 12 = .ok (.iconst 1, 1) := by decide +kernel
theorem dX7_stuff_13 : decode cX7_stuff 13 = .ok (.isub, 1) := by decide +kernel
theorem dX7_stuff_14 : decode cX7_stuff 14 = .ok (.i2l, 1) := by decide +kernel
theorem dX7_stuff_15 : decode cX7_stuff 15 = .ok (.invokestatic 78, 3) := by decide +kernel
theorem dX7_stuff_18 : decode cX7_stuff 18 = .ok (.ifCond .ne 5, 3) := by decide +kernel
theorem dX7_stuff_21 : decode cX7_stuff 21 = .ok (.iconst (-1), 1) := by decide +kernel
theorem dX7_stuff_22 : decode cX7_stuff 22 = .ok (.ireturn, 1) := by decide +kernel
theorem dX7_stuff_23 : decode cX7_stuff 23 = .ok (.iload_n 2, 1) := by decide +kernel
theorem dX7_stuff_24 : decode cX7_stuff 24 = .ok (.ifCond .ne 12, 3) := by decide +kernel
theorem dX7_stuff_27 : decode cX7_stuff 27 = .ok (.aload_n 0, 1) := by decide +kernel
theorem dX7_stuff_28 : decode cX7_stuff 28 = .ok (.getfield 28, 3) := by decide +kernel
theorem dX7_stuff_31 : decode cX7_stuff 31 = .ok (.iload_n 1, 1) := by decide +kernel
theorem dX7_stuff_32 : decode cX7_stuff 32 = .ok (.iaload, 1) := by decide +kernel
theorem dX7_stuff_33 : decode cX7_stuff 33 = .ok (.goto 19, 3) := by decide +kernel
theorem dX7_stuff_36 : decode cX7_stuff 36 = .ok (.iload_n 2, 1) := by decide +kernel
theorem dX7_stuff_37 : decode cX7_stuff 37 = .ok (.iconst 1, 1) := by decide +kernel
theorem dX7_stuff_38 : decode cX7_stuff 38 = .ok (.if_icmp .ne 12, 3) := by decide +kernel
theorem dX7_stuff_41 : decode cX7_stuff 41 = .ok (.aload_n 0, 1) := by decide +kernel
theorem dX7_stuff_42 : decode cX7_stuff 42 = .ok (.getfield 31, 3) := by decide +kernel
theorem dX7_stuff_45 : decode cX7_stuff 45 = .ok (.iload_n 1, 1) := by decide +kernel
theorem dX7_stuff_46 : decode cX7_stuff 46 = .ok (.iaload, 1) := by decide +kernel
theorem dX7_stuff_47 : decode cX7_stuff 47 = .ok (.goto 5, 3) := by decide +kernel
theorem dX7_stuff_50 : decode cX7_stuff 50 = .ok (.bipush (-2), 2) := by decide +kernel
theorem dX7_stuff_52 : decode cX7_stuff 52 = .ok (.ireturn, 1) := by decide +kernel
set_option maxRecDepth 20000 in
theorem ggX7_noise_X7_in : GoodIn wsX7_noise wsX7_in := goodIn_r _ [6] (by decide +kernel) (by decide +kernel)
set_option maxRecDepth 20000 in
theorem gX7_noise_X7_in : GoodIn wsX7_noise (va_wsS RX7 78 yX7_in wsX7_in) := goodIn_app (goodIn_of _ (by decide +kernel)) ggX7_noise_X7_in
set_option maxRecDepth 20000 in
theorem ggX7_noise_X7_begin : GoodIn wsX7_noise wsX7_begin := goodIn_r _ [10, 11, 12, 13, 14, 15, 16, 17, 18, 19, 20, 21, 54, 55, 56, 57, 58, 59, 60, 61, 62, 63, 64, 65, 66, 67, 68, 69, 70, 71, 72, 73, 74, 75, 76, 77, 78, 79, 80, 81, 82, 83, 84, 85, 86, 87, 88, 89, 90, 91, 92, 93] (by decide +kernel) (by decide +kernel)
set_option maxRecDepth 20000 in
theorem gX7_noise_X7_begin : GoodIn wsX7_noise (wsV RX7 195 RX7 yX7_begin wsX7_begin) := goodIn_app (goodIn_of _ (by decide +kernel)) ggX7_noise_X7_begin
set_option maxRecDepth 20000 in
theorem ggX7_noise_X7_noiseAt : GoodIn wsX7_noise wsX7_noiseAt := goodIn_r _ [25, 16, 26, 27, 28, 5, 29, 18, 30, 31, 32, 33, 34, 35, 36, 37, 38, 19, 12, 39, 40, 41, 42, 43, 44, 45, 15, 46, 47, 48, 49, 50, 51, 52, 53, 54, 55, 56, 57, 58, 59, 60, 61, 62, 63, 64, 65, 66, 67, 68, 69, 70, 71, 72, 73, 74, 75, 76, 77, 78, 79, 80, 81, 82, 83, 84, 85, 86, 87, 88, 89, 90, 91, 92, 93] (by decide +kernel) (by decide +kernel)
set_option maxRecDepth 20000 in
theorem gX7_noise_X7_noiseAt : GoodIn wsX7_noise (wsV RX7 179 RX7 yX7_noiseAt wsX7_noiseAt) := goodIn_app (goodIn_of _ (by decide +kernel)) ggX7_noise_X7_noiseAt
theorem dX7_noise_0 : decode cX7_noise 0 = .ok (.aload_n 0, 1) := by decide +kernel
theorem dX7_noise_1 : decode cX7_noise 1 = .ok (.iconst 0, 1) := by decide +kernel
theorem dX7_noise_2 : decode cX7_noise 2 = .ok (.putfield 71, 3) := by decide +kernel
theorem dX7_noise_5 : decode cX7_noise 5 = .ok (.iload_n 1, 1) := by decide +kernel
theorem dX7_noise_6 : decode cX7_noise 6 = .ok (.i2l, 1) := by decide +kernel
theorem dX7_noise_7 : decode cX7_noise 7 = .ok (.lconst 0, 1) := by decide +kernel
theorem dX7_noise_8 : decode cX7_noise 8 = .ok (.ldc2_w 204, 3) := by decide +kernel
theorem dX7_noise_11 : decode cX7_noise 11 = .ok (.invokestatic 78, 3) := by decide +kernel
theorem dX7_noise_14 : decode cX7_noise 14 = .ok (.ifCond .eq 15, 3) := by decide +kernel
theorem dX7_noise_17 : decode cX7_noise 17 = .ok (.iload_n 2, 1) := by decide +kernel
theorem dX7_noise_18 : decode cX7_noise 18 = .ok (.i2l, 1) := by decide +kernel
theorem dX7_noise_19 : decode cX7_noise 19 = .ok (.lconst 0, 1) := by decide +kernel
theorem dX7_noise_20 : decode cX7_noise 20 = .ok (.ldc2_w 204, 3) := by decide +kernel
theorem dX7_noise_23 : decode cX7_noise 23 = .ok (.invokestatic 78, 3) := by decide +kernel
theorem dX7_noise_26 : decode cX7_noise 26 = .ok (.ifCond .ne 6, 3) := by decide +kernel
theorem dX7_noise_29 : decode cX7_noise 29 = .ok (.bipush (-2), 2) := by decide +kernel
theorem dX7_noise_31 : decode cX7_noise 31 = .ok (.ireturn, 1) := by decide +kernel
theorem dX7_noise_32 : decode cX7_noise 32 = .ok (.aload_n 0, 1) := by decide +kernel
theorem dX7_noise_33 : decode cX7_noise 33 = .ok (.invokevirtual 195, 3) := by decide +kernel
theorem dX7_noise_36 : decode cX7_noise 36 = .ok (.aload_n 0, 1) := by decide +kernel
theorem dX7_noise_37 : decode cX7_noise 37 = .ok (.bipush 10, 2) := by decide +kernel
theorem dX7_noise_39 : decode cX7_noise 39 = .ok (.iload_n 2, 1) := by decide +kernel
theorem dX7_noise_40 : decode cX7_noise 40 = .ok (.imul, 1) := by decide +kernel
theorem dX7_noise_41 : decode cX7_noise 41 = .ok (.iload_n 1, 1) := by decide +kernel
theorem dX7_noise_42 : decode cX7_noise 42 = .ok (.iadd, 1) := by decide +kernel
theorem dX7_noise_43 : decode cX7_noise 43 = .ok (.invokevirtual 179, 3) := by decide +kernel
theorem dX7_noise_46 : decode cX7_noise 46 = .ok (.ireturn, 1) := by decide +kernel
set_option maxRecDepth 20000 in
theorem ggX7_from_X7_noRing : GoodIn wsX7_from wsX7_noRing := goodIn_r _ [7, 8, 9, 10, 6, 11, 42, 43, 44, 45, 46, 47, 48, 49, 50, 51, 52, 53, 54, 55, 56, 57, 58, 59, 60, 61, 62, 63, 64, 65, 66, 67, 68, 69, 70, 71, 72, 73, 74, 75, 76, 77, 78, 79, 80, 81] (by decide +kernel) (by decide +kernel)
set_option maxRecDepth 20000 in
theorem gX7_from_X7_noRing : GoodIn wsX7_from (wsV RX7 201 RX7 yX7_noRing wsX7_noRing) := goodIn_app (goodIn_of _ (by decide +kernel)) ggX7_from_X7_noRing
set_option maxRecDepth 20000 in
theorem ggX7_from_X7_in : GoodIn wsX7_from wsX7_in := goodIn_r _ [11] (by decide +kernel) (by decide +kernel)
set_option maxRecDepth 20000 in
theorem gX7_from_X7_in : GoodIn wsX7_from (va_wsS RX7 78 yX7_in wsX7_in) := goodIn_app (goodIn_of _ (by decide +kernel)) ggX7_from_X7_in
set_option maxRecDepth 20000 in
theorem ggX7_from_X7_begin : GoodIn wsX7_from wsX7_begin := goodIn_r _ [15, 8, 16, 17, 18, 19, 20, 21, 22, 23, 24, 25, 42, 43, 44, 45, 46, 47, 48, 49, 50, 51, 52, 53, 54, 55, 56, 57, 58, 59, 60, 61, 62, 63, 64, 65, 66, 67, 68, 69, 70, 71, 72, 73, 74, 75, 76, 77, 78, 79, 80, 81] (by decide +kernel) (by decide +kernel)
set_option maxRecDepth 20000 in
theorem gX7_from_X7_begin : GoodIn wsX7_from (wsV RX7 195 RX7 yX7_begin wsX7_begin) := goodIn_app (goodIn_of _ (by decide +kernel)) ggX7_from_X7_begin
set_option maxRecDepth 20000 in
theorem ggX7_from_X7_fromAt : GoodIn wsX7_from wsX7_fromAt := goodIn_r _ [29, 30, 31, 32, 33, 6, 34, 35, 23, 16, 36, 37, 38, 39, 40, 41, 42, 43, 44, 45, 46, 47, 48, 49, 50, 51, 52, 53, 54, 55, 56, 57, 58, 59, 60, 61, 62, 63, 64, 65, 66, 67, 68, 69, 70, 71, 72, 73, 74, 75, 76, 77, 78, 79, 80, 81] (by decide +kernel) (by decide +kernel)
set_option maxRecDepth 20000 in
theorem gX7_from_X7_fromAt : GoodIn wsX7_from (wsV RX7 173 RX7 yX7_fromAt wsX7_fromAt) := goodIn_app (goodIn_of _ (by decide +kernel)) ggX7_from_X7_fromAt
theorem dX7_from_0 : decode cX7_from 0 = .ok (.aload_n 0, 1) := by decide +kernel
theorem dX7_from_1 : decode cX7_from 1 = .ok (.iconst 0, 1) := by decide +kernel
theorem dX7_from_2 : decode cX7_from 2 = .ok (.putfield 71, 3) := by decide +kernel
theorem dX7_from_5 : decode cX7_from 5 = .ok (.aload_n 0, 1) := by decide +kernel
theorem dX7_from_6 : decode cX7_from 6 = .ok (.iload_n 1, 1) := by decide +kernel
theorem dX7_from_7 : decode cX7_from 7 = .ok (.invokevirtual 201, 3) := by decide +kernel
theorem dX7_from_10 : decode cX7_from 10 = .ok (.ifCond .eq 5, 3) := by decide +kernel
theorem dX7_from_13 : decode cX7_from 13 = .ok (.iconst (-1), 1) := by decide +kernel
theorem dX7_from_14 : decode cX7_from 14 = .ok (.ireturn, 1) := by decide +kernel
theorem dX7_from_15 : decode cX7_from 15 = .ok (.iload_n 2, 1) := by decide +kernel
theorem dX7_from_16 : decode cX7_from 16 = .ok (.i2l, 1) := by decide +kernel
theorem dX7_from_17 : decode cX7_from 17 = .ok (.lconst 0, 1) := by decide +kernel
theorem dX7_from_18 : decode cX7_from 18 = .ok (.ldc2_w 204, 3) := by decide +kernel
theorem dX7_from_21 : decode cX7_from 21 = .ok (.invokestatic 78, 3) := by decide +kernel
theorem dX7_from_24 : decode cX7_from 24 = .ok (.ifCond .eq 15, 3) := by decide +kernel
theorem dX7_from_27 : decode cX7_from 27 = .ok (.iload_n 3, 1) := by decide +kernel
theorem dX7_from_28 : decode cX7_from 28 = .ok (.i2l, 1) := by decide +kernel
theorem dX7_from_29 : decode cX7_from 29 = .ok (.lconst 0, 1) := by decide +kernel
theorem dX7_from_30 : decode cX7_from 30 = .ok (.ldc2_w 204, 3) := by decide +kernel
theorem dX7_from_33 : decode cX7_from 33 = .ok (.invokestatic 78, 3) := by decide +kernel
theorem dX7_from_36 : decode cX7_from 36 = .ok (.ifCond .ne 6, 3) := by decide +kernel
theorem dX7_from_39 : decode cX7_from 39 = .ok (.bipush (-2), 2) := by decide +kernel
theorem dX7_from_41 : decode cX7_from 41 = .ok (.ireturn, 1) := by decide +kernel
theorem dX7_from_42 : decode cX7_from 42 = .ok (.aload_n 0, 1) := by decide +kernel
theorem dX7_from_43 : decode cX7_from 43 = .ok (.invokevirtual 195, 3) := by decide +kernel
theorem dX7_from_46 : decode cX7_from 46 = .ok (.aload_n 0, 1) := by decide +kernel
theorem dX7_from_47 : decode cX7_from 47 = .ok (.iload_n 1, 1) := by decide +kernel
theorem dX7_from_48 : decode cX7_from 48 = .ok (.bipush 10, 2) := by decide +kernel
theorem dX7_from_50 : decode cX7_from 50 = .ok (.iload_n 3, 1) := by decide +kernel
theorem dX7_from_51 : decode cX7_from 51 = .ok (.imul, 1) := by decide +kernel
theorem dX7_from_52 : decode cX7_from 52 = .ok (.iload_n 2, 1) := by decide +kernel
theorem dX7_from_53 : decode cX7_from 53 = .ok (.iadd, 1) := by decide +kernel
theorem dX7_from_54 : decode cX7_from 54 = .ok (.invokevirtual 173, 3) := by decide +kernel
theorem dX7_from_57 : decode cX7_from 57 = .ok (.ireturn, 1) := by decide +kernel
set_option maxRecDepth 20000 in
theorem ggX7_voice_X7_noRing : GoodIn wsX7_voice wsX7_noRing := goodIn_r _ [8, 9, 10, 11, 7, 12, 13, 14, 15, 16, 17, 18, 19, 20, 21, 22, 23, 24, 25, 26, 27, 28, 29, 30, 31, 32, 33, 34, 35, 36, 37, 38, 39, 40, 41, 42, 43, 44, 45, 46, 47, 48, 49, 50, 51, 52] (by decide +kernel) (by decide +kernel)
set_option maxRecDepth 20000 in
theorem gX7_voice_X7_noRing : GoodIn wsX7_voice (wsV RX7 201 RX7 yX7_noRing wsX7_noRing) := goodIn_app (goodIn_of _ (by decide +kernel)) ggX7_voice_X7_noRing
set_option maxRecDepth 20000 in
theorem ggX7_voice_X7_in : GoodIn wsX7_voice wsX7_in := goodIn_r _ [12] (by decide +kernel) (by decide +kernel)
set_option maxRecDepth 20000 in
theorem gX7_voice_X7_in : GoodIn wsX7_voice (va_wsS RX7 78 yX7_in wsX7_in) := goodIn_app (goodIn_of _ (by decide +kernel)) ggX7_voice_X7_in
theorem dX7_voice_0 : decode cX7_voice 0 = .ok (.aload_n 0, 1) := by decide +kernel
theorem dX7_voice_1 : decode cX7_voice 1 = .ok (.iconst 0, 1) := by decide +kernel
theorem dX7_voice_2 : decode cX7_voice 2 = .ok (.putfield 71, 3) := by decide +kernel
theorem dX7_voice_5 : decode cX7_voice 5 = .ok (.aload_n 0, 1) := by decide +kernel
theorem dX7_voice_6 : decode cX7_voice 6 = .ok (.iload_n 1, 1) := by decide +kernel
theorem dX7_voice_7 : decode cX7_voice 7 = .ok (.invokevirtual 201, 3) := by decide +kernel
theorem dX7_voice_10 : decode cX7_voice 10 = .ok (.ifCond .eq 5, 3) := by decide +kernel
theorem dX7_voice_13 : decode cX7_voice 13 = .ok (.iconst (-1), 1) := by decide +kernel
theorem dX7_voice_14 : decode cX7_voice 14 = .ok (.ireturn, 1) := by decide +kernel
theorem dX7_voice_15 : decode cX7_voice 15 = .ok (.iload_n 2, 1) := by decide +kernel
theorem dX7_voice_16 : decode cX7_voice 16 = .ok (.i2l, 1) := by decide +kernel
theorem dX7_voice_17 : decode cX7_voice 17 = .ok (.lconst 1, 1) := by decide +kernel
theorem dX7_voice_18 : decode cX7_voice 18 = .ok (.ldc2_w 204, 3) := by decide +kernel
theorem dX7_voice_21 : decode cX7_voice 21 = .ok (.invokestatic 78, 3) := by decide +kernel
theorem dX7_voice_24 : decode cX7_voice 24 = .ok (.ifCond .ne 6, 3) := by decide +kernel
theorem dX7_voice_27 : decode cX7_voice 27 = .ok (.bipush (-2), 2) := by decide +kernel
theorem dX7_voice_29 : decode cX7_voice 29 = .ok (.ireturn, 1) := by decide +kernel
theorem dX7_voice_30 : decode cX7_voice 30 = .ok (.aload_n 0, 1) := by decide +kernel
theorem dX7_voice_31 : decode cX7_voice 31 = .ok (.getfield 22, 3) := by decide +kernel
theorem dX7_voice_34 : decode cX7_voice 34 = .ok (.iload_n 1, 1) := by decide +kernel
theorem dX7_voice_35 : decode cX7_voice 35 = .ok (.iaload, 1) := by decide +kernel
theorem dX7_voice_36 : decode cX7_voice 36 = .ok (.istore_n 3, 1) := by decide +kernel
theorem dX7_voice_37 : decode cX7_voice 37 = .ok (.aload_n 0, 1) := by decide +kernel
theorem dX7_voice_38 : decode cX7_voice 38 = .ok (.getfield 22, 3) := by decide +kernel
theorem dX7_voice_41 : decode cX7_voice 41 = .ok (.iload_n 1, 1) := by decide +kernel
theorem dX7_voice_42 : decode cX7_voice 42 = .ok (.iload_n 2, 1) := by decide +kernel
theorem dX7_voice_43 : decode cX7_voice 43 = .ok (.iastore, 1) := by decide +kernel
theorem dX7_voice_44 : decode cX7_voice 44 = .ok (.iload_n 3, 1) := by decide +kernel
theorem dX7_voice_45 : decode cX7_voice 45 = .ok (.ireturn, 1) := by decide +kernel
set_option maxRecDepth 20000 in
theorem ggX7_music_X7_in : GoodIn wsX7_music wsX7_in := goodIn_r _ [8] (by decide +kernel) (by decide +kernel)
set_option maxRecDepth 20000 in
theorem gX7_music_X7_in : GoodIn wsX7_music (va_wsS RX7 78 yX7_in wsX7_in) := goodIn_app (goodIn_of _ (by decide +kernel)) ggX7_music_X7_in
theorem dX7_music_0 : decode cX7_music 0 = .ok (.aload_n 0, 1) := by decide +kernel
theorem dX7_music_1 : decode cX7_music 1 = .ok (.iconst 0, 1) := by decide +kernel
theorem dX7_music_2 : decode cX7_music 2 = .ok (.putfield 71, 3) := by decide +kernel
theorem dX7_music_5 : decode cX7_music 5 = .ok (.iload_n 1, 1) := by decide +kernel
theorem dX7_music_6 : decode cX7_music 6 = .ok (.i2l, 1) := by decide +kernel
theorem dX7_music_7 : decode cX7_music 7 = .ok (.lconst 0, 1) := by decide +kernel
theorem dX7_music_8 : decode cX7_music 8 = .ok (.ldc2_w 204, 3) := by decide +kernel
theorem dX7_music_11 : decode cX7_music 11 = .ok (.invokestatic 78, 3) := by decide +kernel
theorem dX7_music_14 : decode cX7_music 14 = .ok (.ifCond .ne 6, 3) := by decide +kernel
theorem dX7_music_17 : decode cX7_music 17 = .ok (.bipush (-2), 2) := by decide +kernel
theorem dX7_music_19 : decode cX7_music 19 = .ok (.ireturn, 1) := by decide +kernel
theorem dX7_music_20 : decode cX7_music 20 = .ok (.aload_n 0, 1) := by decide +kernel
theorem dX7_music_21 : decode cX7_music 21 = .ok (.getfield 128, 3) := by decide +kernel
theorem dX7_music_24 : decode cX7_music 24 = .ok (.istore_n 3, 1) := by decide +kernel
theorem dX7_music_25 : decode cX7_music 25 = .ok (.aload_n 0, 1) := by decide +kernel
theorem dX7_music_26 : decode cX7_music 26 = .ok (.iload_n 1, 1) := by decide +kernel
theorem dX7_music_27 : decode cX7_music 27 = .ok (.putfield 128, 3) := by decide +kernel
theorem dX7_music_30 : decode cX7_music 30 = .ok (.aload_n 0, 1) := by decide +kernel
theorem dX7_music_31 : decode cX7_music 31 = .ok (.iload_n 2, 1) := by decide +kernel
theorem dX7_music_32 : decode cX7_music 32 = .ok (.putfield 131, 3) := by decide +kernel
theorem dX7_music_35 : decode cX7_music 35 = .ok (.iload_n 3, 1) := by decide +kernel
theorem dX7_music_36 : decode cX7_music 36 = .ok (.ireturn, 1) := by decide +kernel
set_option maxRecDepth 20000 in
theorem ggX7_eats_X7_in : GoodIn wsX7_eats wsX7_in := goodIn_r _ [7] (by decide +kernel) (by decide +kernel)
set_option maxRecDepth 20000 in
theorem gX7_eats_X7_in : GoodIn wsX7_eats (va_wsS RX7 78 yX7_in wsX7_in) := goodIn_app (goodIn_of _ (by decide +kernel)) ggX7_eats_X7_in
theorem dX7_eats_0 : decode cX7_eats 0 = .ok (.aload_n 0, 1) := by decide +kernel
theorem dX7_eats_1 : decode cX7_eats 1 = .ok (.iconst 0, 1) := by decide +kernel
theorem dX7_eats_2 : decode cX7_eats 2 = .ok (.putfield 71, 3) := by decide +kernel
theorem dX7_eats_5 : decode cX7_eats 5 = .ok (.iload_n 1, 1) := by decide +kernel
theorem dX7_eats_6 : decode cX7_eats 6 = .ok (.i2l, 1) := by decide +kernel
theorem dX7_eats_7 : decode cX7_eats 7 = .ok (.lconst 0, 1) := by decide +kernel
theorem dX7_eats_8 : decode cX7_eats 8 = .ok (.ldc2_w 204, 3) := by decide +kernel
theorem dX7_eats_11 : decode cX7_eats 11 = .ok (.invokestatic 78, 3) := by decide +kernel
theorem dX7_eats_14 : decode cX7_eats 14 = .ok (.ifCond .ne 6, 3) := by decide +kernel
theorem dX7_eats_17 : decode cX7_eats 17 = .ok (.bipush (-2), 2) := by decide +kernel
theorem dX7_eats_19 : decode cX7_eats 19 = .ok (.ireturn, 1) := by decide +kernel
theorem dX7_eats_20 : decode cX7_eats 20 = .ok (.aload_n 0, 1) := by decide +kernel
theorem dX7_eats_21 : decode cX7_eats 21 = .ok (.getfield 125, 3) := by decide +kernel
theorem dX7_eats_24 : decode cX7_eats 24 = .ok (.istore_n 2, 1) := by decide +kernel
theorem dX7_eats_25 : decode cX7_eats 25 = .ok (.aload_n 0, 1) := by decide +kernel
theorem dX7_eats_26 : decode cX7_eats 26 = .ok (.iload_n 1, 1) := by decide +kernel
theorem dX7_eats_27 : decode cX7_eats 27 = .ok (.putfield 125, 3) := by decide +kernel
theorem dX7_eats_30 : decode cX7_eats 30 = .ok (.iload_n 2, 1) := by decide +kernel
theorem dX7_eats_31 : decode cX7_eats 31 = .ok (.ireturn, 1) := by decide +kernel
theorem dX7_layPage_0 : decode cX7_layPage 0 = .ok (.iconst 0, 1) := by decide +kernel
theorem dX7_layPage_1 : decode cX7_layPage 1 = .ok (.istore_n 3, 1) := by decide +kernel
theorem dX7_layPage_2 : decode cX7_layPage 2 = .ok (.iload_n 3, 1) := by decide +kernel
theorem dX7_layPage_3 : decode cX7_layPage 3 = .ok (.bipush 8, 2) := by decide +kernel
theorem dX7_layPage_5 : decode cX7_layPage 5 = .ok (.if_icmp .ge 76, 3) := by decide +kernel
theorem dX7_layPage_8 : decode cX7_layPage 8 = .ok (.aload_n 1, 1) := by decide +kernel
theorem dX7_layPage_9 : decode cX7_layPage 9 = .ok (.iload_n 2, 1) := by decide +kernel
theorem dX7_layPage_10 : decode cX7_layPage 10 = .ok (.iload_n 3, 1) := by decide +kernel
theorem dX7_layPage_11 : decode cX7_layPage 11 = .ok (.iadd, 1) := by decide +kernel
theorem dX7_layPage_12 : decode cX7_layPage 12 = .ok (.aload_n 0, 1) := by decide +kernel
theorem dX7_layPage_13 : decode cX7_layPage 13 = .ok (.getfield 13, 3) := by decide +kernel
theorem dX7_layPage_16 : decode cX7_layPage 16 = .ok (.iload_n 3, 1) := by decide +kernel
theorem dX7_layPage_17 : decode cX7_layPage 17 = .ok (.iaload, 1) := by decide +kernel
theorem dX7_layPage_18 : decode cX7_layPage 18 = .ok (.iastore, 1) := by decide +kernel
theorem dX7_layPage_19 : decode cX7_layPage 19 = .ok (.aload_n 1, 1) := by decide +kernel
theorem dX7_layPage_20 : decode cX7_layPage 20 = .ok (.iload_n 2, 1) := by decide +kernel
theorem dX7_layPage_21 : decode cX7_layPage 21 = .ok (.bipush 8, 2) := by decide +kernel
theorem dX7_layPage_23 : decode cX7_layPage 23 = .ok (.iadd, 1) := by decide +kernel
theorem dX7_layPage_24 : decode cX7_layPage 24 = .ok (.iload_n 3, 1) := by decide +kernel
theorem dX7_layPage_25 : decode cX7_layPage 25 = .ok (.iadd, 1) := by decide +kernel
theorem dX7_layPage_26 : decode cX7_layPage 26 = .ok (.aload_n 0, 1) := by decide +kernel
theorem dX7_layPage_27 : decode cX7_layPage 27 = .ok (.getfield 16, 3) := by decide +kernel
theorem dX7_layPage_30 : decode cX7_layPage 30 = .ok (.iload_n 3, 1) := by decide +kernel
theorem dX7_layPage_31 : decode cX7_layPage 31 = .ok (.iaload, 1) := by decide +kernel
theorem dX7_layPage_32 : decode cX7_layPage 32 = .ok (.iastore, 1) := by decide +kernel
theorem dX7_layPage_33 : decode cX7_layPage 33 = .ok (.aload_n 1, 1) := by decide +kernel
theorem dX7_layPage_34 : decode cX7_layPage 34 = .ok (.iload_n 2, 1) := by decide +kernel
theorem dX7_layPage_35 : decode cX7_layPage 35 = .ok (.bipush 16, 2) := by decide +kernel
theorem dX7_layPage_37 : decode cX7_layPage 37 = .ok (.iadd, 1) := by decide +kernel
theorem dX7_layPage_38 : decode cX7_layPage 38 = .ok (.iload_n 3, 1) := by decide +kernel
theorem dX7_layPage_39 : decode cX7_layPage 39 = .ok (.iadd, 1) := by decide +kernel
theorem dX7_layPage_40 : decode cX7_layPage 40 = .ok (.aload_n 0, 1) := by decide +kernel
theorem dX7_layPage_41 : decode cX7_layPage 41 = .ok (.getfield 19, 3) := by decide +kernel
theorem dX7_layPage_44 : decode cX7_layPage 44 = .ok (.iload_n 3, 1) := by decide +kernel
theorem dX7_layPage_45 : decode cX7_layPage 45 = .ok (.iaload, 1) := by decide +kernel
theorem dX7_layPage_46 : decode cX7_layPage 46 = .ok (.iastore, 1) := by decide +kernel
theorem dX7_layPage_47 : decode cX7_layPage 47 = .ok (.aload_n 1, 1) := by decide +kernel
theorem dX7_layPage_48 : decode cX7_layPage 48 = .ok (.iload_n 2, 1) := by decide +kernel
theorem dX7_layPage_49 : decode cX7_layPage 49 = .ok (.bipush 24, 2) := by decide +kernel
theorem dX7_layPage_51 : decode cX7_layPage 51 = .ok (.iadd, 1) := by decide +kernel
theorem dX7_layPage_52 : decode cX7_layPage 52 = .ok (.iload_n 3, 1) := by decide +kernel
theorem dX7_layPage_53 : decode cX7_layPage 53 = .ok (.iadd, 1) := by decide +kernel
theorem dX7_layPage_54 : decode cX7_layPage 54 = .ok (.aload_n 0, 1) := by decide +kernel
theorem dX7_layPage_55 : decode cX7_layPage 55 = .ok (.getfield 22, 3) := by decide +kernel
theorem dX7_layPage_58 : decode cX7_layPage 58 = .ok (.iload_n 3, 1) := by decide +kernel
theorem dX7_layPage_59 : decode cX7_layPage 59 = .ok (.iaload, 1) := by decide +kernel
theorem dX7_layPage_60 : decode cX7_layPage 60 = .ok (.iastore, 1) := by decide +kernel
theorem dX7_layPage_61 : decode cX7_layPage 61 = .ok (.aload_n 1, 1) := by decide +kernel
theorem dX7_layPage_62 : decode cX7_layPage 62 = .ok (.iload_n 2, 1) := by decide +kernel
theorem dX7_layPage_63 : decode cX7_layPage 63 = .ok (.bipush 32, 2) := by decide +kernel
theorem dX7_layPage_65 : decode cX7_layPage 65 = .ok (.iadd, 1) := by decide +kernel
theorem dX7_layPage_66 : decode cX7_layPage 66 = .ok (.iload_n 3, 1) := by decide +kernel
theorem dX7_layPage_67 : decode cX7_layPage 67 = .ok (.iadd, 1) := by decide +kernel
theorem dX7_layPage_68 : decode cX7_layPage 68 = .ok (.aload_n 0, 1) := by decide +kernel
theorem dX7_layPage_69 : decode cX7_layPage 69 = .ok (.getfield 25, 3) := by decide +kernel
theorem dX7_layPage_72 : decode cX7_layPage 72 = .ok (.iload_n 3, 1) := by decide +kernel
theorem dX7_layPage_73 : decode cX7_layPage 73 = .ok (.iaload, 1) := by decide +kernel
theorem dX7_layPage_74 : decode cX7_layPage 74 = .ok (.iastore, 1) := by decide +kernel
theorem dX7_layPage_75 : decode cX7_layPage 75 = .ok (.iinc 3 1, 3) := by decide +kernel
theorem dX7_layPage_78 : decode cX7_layPage 78 = .ok (.goto (-76), 3) := by decide +kernel
theorem dX7_layPage_81 : decode cX7_layPage 81 = .ok (.aload_n 1, 1) := by decide +kernel
theorem dX7_layPage_82 : decode cX7_layPage 82 = .ok (.iload_n 2, 1) := by decide +kernel
theorem dX7_layPage_83 : decode cX7_layPage 83 = .ok (.bipush 40, 2) := by decide +kernel
theorem dX7_layPage_85 : decode cX7_layPage 85 = .ok (.iadd, 1) := by decide +kernel
theorem dX7_layPage_86 : decode cX7_layPage 86 = .ok (.aload_n 0, 1) := by decide +kernel
theorem dX7_layPage_87 : decode cX7_layPage 87 = .ok (.getfield 75, 3) := by decide +kernel
theorem dX7_layPage_90 : decode cX7_layPage 90 = .ok (.iastore, 1) := by decide +kernel
theorem dX7_layPage_91 : decode cX7_layPage 91 = .ok (.aload_n 1, 1) := by decide +kernel
theorem dX7_layPage_92 : decode cX7_layPage 92 = .ok (.iload_n 2, 1) := by decide +kernel
theorem dX7_layPage_93 : decode cX7_layPage 93 = .ok (.bipush 41, 2) := by decide +kernel
theorem dX7_layPage_95 : decode cX7_layPage 95 = .ok (.iadd, 1) := by decide +kernel
theorem dX7_layPage_96 : decode cX7_layPage 96 = .ok (.aload_n 0, 1) := by decide +kernel
theorem dX7_layPage_97 : decode cX7_layPage 97 = .ok (.getfield 128, 3) := by decide +kernel
theorem dX7_layPage_100 : decode cX7_layPage 100 = .ok (.iastore, 1) := by decide +kernel
theorem dX7_layPage_101 : decode cX7_layPage 101 = .ok (.return_, 1) := by decide +kernel
theorem dX7_takePage_0 : decode cX7_takePage 0 = .ok (.iconst 0, 1) := by decide +kernel
theorem dX7_takePage_1 : decode cX7_takePage 1 = .ok (.istore_n 3, 1) := by decide +kernel
theorem dX7_takePage_2 : decode cX7_takePage 2 = .ok (.iload_n 3, 1) := by decide +kernel
theorem dX7_takePage_3 : decode cX7_takePage 3 = .ok (.bipush 8, 2) := by decide +kernel
theorem dX7_takePage_5 : decode cX7_takePage 5 = .ok (.if_icmp .ge 76, 3) := by decide +kernel
theorem dX7_takePage_8 : decode cX7_takePage 8 = .ok (.aload_n 0, 1) := by decide +kernel
theorem dX7_takePage_9 : decode cX7_takePage 9 = .ok (.getfield 13, 3) := by decide +kernel
theorem dX7_takePage_12 : decode cX7_takePage 12 = .ok (.iload_n 3, 1) := by decide +kernel
theorem dX7_takePage_13 : decode cX7_takePage 13 = .ok (.aload_n 1, 1) := by decide +kernel
theorem dX7_takePage_14 : decode cX7_takePage 14 = .ok (.iload_n 2, 1) := by decide +kernel
theorem dX7_takePage_15 : decode cX7_takePage 15 = .ok (.iload_n 3, 1) := by decide +kernel
theorem dX7_takePage_16 : decode cX7_takePage 16 = .ok (.iadd, 1) := by decide +kernel
theorem dX7_takePage_17 : decode cX7_takePage 17 = .ok (.iaload, 1) := by decide +kernel
theorem dX7_takePage_18 : decode cX7_takePage 18 = .ok (.iastore, 1) := by decide +kernel
theorem dX7_takePage_19 : decode cX7_takePage 19 = .ok (.aload_n 0, 1) := by decide +kernel
theorem dX7_takePage_20 : decode cX7_takePage 20 = .ok (.getfield 16, 3) := by decide +kernel
theorem dX7_takePage_23 : decode cX7_takePage 23 = .ok (.iload_n 3, 1) := by decide +kernel
theorem dX7_takePage_24 : decode cX7_takePage 24 = .ok (.aload_n 1, 1) := by decide +kernel
theorem dX7_takePage_25 : decode cX7_takePage 25 = .ok (.iload_n 2, 1) := by decide +kernel
theorem dX7_takePage_26 : decode cX7_takePage 26 = .ok (.bipush 8, 2) := by decide +kernel
theorem dX7_takePage_28 : decode cX7_takePage 28 = .ok (.iadd, 1) := by decide +kernel
theorem dX7_takePage_29 : decode cX7_takePage 29 = .ok (.iload_n 3, 1) := by decide +kernel
theorem dX7_takePage_30 : decode cX7_takePage 30 = .ok (.iadd, 1) := by decide +kernel
theorem dX7_takePage_31 : decode cX7_takePage 31 = .ok (.iaload, 1) := by decide +kernel
theorem dX7_takePage_32 : decode cX7_takePage 32 = .ok (.iastore, 1) := by decide +kernel
theorem dX7_takePage_33 : decode cX7_takePage 33 = .ok (.aload_n 0, 1) := by decide +kernel
theorem dX7_takePage_34 : decode cX7_takePage 34 = .ok (.getfield 19, 3) := by decide +kernel
theorem dX7_takePage_37 : decode cX7_takePage 37 = .ok (.iload_n 3, 1) := by decide +kernel
theorem dX7_takePage_38 : decode cX7_takePage 38 = .ok (.aload_n 1, 1) := by decide +kernel
theorem dX7_takePage_39 : decode cX7_takePage 39 = .ok (.iload_n 2, 1) := by decide +kernel
theorem dX7_takePage_40 : decode cX7_takePage 40 = .ok (.bipush 16, 2) := by decide +kernel
theorem dX7_takePage_42 : decode cX7_takePage 42 = .ok (.iadd, 1) := by decide +kernel
theorem dX7_takePage_43 : decode cX7_takePage 43 = .ok (.iload_n 3, 1) := by decide +kernel
theorem dX7_takePage_44 : decode cX7_takePage 44 = .ok (.iadd, 1) := by decide +kernel
theorem dX7_takePage_45 : decode cX7_takePage 45 = .ok (.iaload, 1) := by decide +kernel
theorem dX7_takePage_46 : decode cX7_takePage 46 = .ok (.iastore, 1) := by decide +kernel
theorem dX7_takePage_47 : decode cX7_takePage 47 = .ok (.aload_n 0, 1) := by decide +kernel
theorem dX7_takePage_48 : decode cX7_takePage 48 = .ok (.getfield 22, 3) := by decide +kernel
theorem dX7_takePage_51 : decode cX7_takePage 51 = .ok (.iload_n 3, 1) := by decide +kernel
theorem dX7_takePage_52 : decode cX7_takePage 52 = .ok (.aload_n 1, 1) := by decide +kernel
theorem dX7_takePage_53 : decode cX7_takePage 53 = .ok (.iload_n 2, 1) := by decide +kernel
theorem dX7_takePage_54 : decode cX7_takePage 54 = .ok (.bipush 24, 2) := by decide +kernel
theorem dX7_takePage_56 : decode cX7_takePage 56 = .ok (.iadd, 1) := by decide +kernel
theorem dX7_takePage_57 : decode cX7_takePage 57 = .ok (.iload_n 3, 1) := by decide +kernel
theorem dX7_takePage_58 : decode cX7_takePage 58 = .ok (.iadd, 1) := by decide +kernel
theorem dX7_takePage_59 : decode cX7_takePage 59 = .ok (.iaload, 1) := by decide +kernel
theorem dX7_takePage_60 : decode cX7_takePage 60 = .ok (.iastore, 1) := by decide +kernel
theorem dX7_takePage_61 : decode cX7_takePage 61 = .ok (.aload_n 0, 1) := by decide +kernel
theorem dX7_takePage_62 : decode cX7_takePage 62 = .ok (.getfield 25, 3) := by decide +kernel
theorem dX7_takePage_65 : decode cX7_takePage 65 = .ok (.iload_n 3, 1) := by decide +kernel
theorem dX7_takePage_66 : decode cX7_takePage 66 = .ok (.aload_n 1, 1) := by decide +kernel
theorem dX7_takePage_67 : decode cX7_takePage 67 = .ok (.iload_n 2, 1) := by decide +kernel
theorem dX7_takePage_68 : decode cX7_takePage 68 = .ok (.bipush 32, 2) := by decide +kernel
theorem dX7_takePage_70 : decode cX7_takePage 70 = .ok (.iadd, 1) := by decide +kernel
theorem dX7_takePage_71 : decode cX7_takePage 71 = .ok (.iload_n 3, 1) := by decide +kernel
theorem dX7_takePage_72 : decode cX7_takePage 72 = .ok (.iadd, 1) := by decide +kernel
theorem dX7_takePage_73 : decode cX7_takePage 73 = .ok (.iaload, 1) := by decide +kernel
theorem dX7_takePage_74 : decode cX7_takePage 74 = .ok (.iastore, 1) := by decide +kernel
theorem dX7_takePage_75 : decode cX7_takePage 75 = .ok (.iinc 3 1, 3) := by decide +kernel
theorem dX7_takePage_78 : decode cX7_takePage 78 = .ok (.goto (-76), 3) := by decide +kernel
theorem dX7_takePage_81 : decode cX7_takePage 81 = .ok (.aload_n 0, 1) := by decide +kernel
theorem dX7_takePage_82 : decode cX7_takePage 82 = .ok (.aload_n 1, 1) := by decide +kernel
theorem dX7_takePage_83 : decode cX7_takePage 83 = .ok (.iload_n 2, 1) := by decide +kernel
theorem dX7_takePage_84 : decode cX7_takePage 84 = .ok (.bipush 40, 2) := by decide +kernel
theorem dX7_takePage_86 : decode cX7_takePage 86 = .ok (.iadd, 1) := by decide +kernel
theorem dX7_takePage_87 : decode cX7_takePage 87 = .ok (.iaload, 1) := by decide +kernel
theorem dX7_takePage_88 : decode cX7_takePage 88 = .ok (.putfield 75, 3) := by decide +kernel
theorem dX7_takePage_91 : decode cX7_takePage 91 = .ok (.aload_n 0, 1) := by decide +kernel
theorem dX7_takePage_92 : decode cX7_takePage 92 = .ok (.aload_n 1, 1) := by decide +kernel
theorem dX7_takePage_93 : decode cX7_takePage 93 = .ok (.iload_n 2, 1) := by decide +kernel
theorem dX7_takePage_94 : decode cX7_takePage 94 = .ok (.bipush 41, 2) := by decide +kernel
theorem dX7_takePage_96 : decode cX7_takePage 96 = .ok (.iadd, 1) := by decide +kernel
theorem dX7_takePage_97 : decode cX7_takePage 97 = .ok (.iaload, 1) := by decide +kernel
theorem dX7_takePage_98 : decode cX7_takePage 98 = .ok (.putfield 128, 3) := by decide +kernel
theorem dX7_takePage_101 : decode cX7_takePage 101 = .ok (.return_, 1) := by decide +kernel
set_option maxRecDepth 20000 in
theorem ggX7_note_X7_layPage : GoodIn wsX7_note wsX7_layPage := goodIn_r _ [7, 8, 9, 10, 11, 12, 13, 14, 15, 16, 17, 18, 19, 20, 21, 22, 23, 24, 25, 26, 27, 28, 29, 30, 31, 32, 33, 34, 35, 36, 37, 38, 39, 40, 41, 42, 43, 44, 45, 46, 47, 48, 49, 50, 51, 52, 53, 54] (by decide +kernel) (by decide +kernel)
set_option maxRecDepth 20000 in
theorem gX7_note_X7_layPage : GoodIn wsX7_note (wsV RX7 206 RX7 yX7_layPage wsX7_layPage) := goodIn_app (goodIn_of _ (by decide +kernel)) ggX7_note_X7_layPage
theorem dX7_note_0 : decode cX7_note 0 = .ok (.aload_n 0, 1) := by decide +kernel
theorem dX7_note_1 : decode cX7_note 1 = .ok (.getfield 135, 3) := by decide +kernel
theorem dX7_note_4 : decode cX7_note 4 = .ok (.bipush 10, 2) := by decide +kernel
theorem dX7_note_6 : decode cX7_note 6 = .ok (.if_icmp .ne 43, 3) := by decide +kernel
theorem dX7_note_9 : decode cX7_note 9 = .ok (.iconst 0, 1) := by decide +kernel
theorem dX7_note_10 : decode cX7_note 10 = .ok (.istore_n 1, 1) := by decide +kernel
theorem dX7_note_11 : decode cX7_note 11 = .ok (.iload_n 1, 1) := by decide +kernel
theorem dX7_note_12 : decode cX7_note 12 = .ok (.sipush 378, 3) := by decide +kernel
theorem dX7_note_15 : decode cX7_note 15 = .ok (.if_icmp .ge 24, 3) := by decide +kernel
theorem dX7_note_18 : decode cX7_note 18 = .ok (.aload_n 0, 1) := by decide +kernel
theorem dX7_note_19 : decode cX7_note 19 = .ok (.getfield 40, 3) := by decide +kernel
theorem dX7_note_22 : decode cX7_note 22 = .ok (.iload_n 1, 1) := by decide +kernel
theorem dX7_note_23 : decode cX7_note 23 = .ok (.aload_n 0, 1) := by decide +kernel
theorem dX7_note_24 : decode cX7_note 24 = .ok (.getfield 40, 3) := by decide +kernel
theorem dX7_note_27 : decode cX7_note 27 = .ok (.iload_n 1, 1) := by decide +kernel
theorem dX7_note_28 : decode cX7_note 28 = .ok (.bipush 42, 2) := by decide +kernel
theorem dX7_note_30 : decode cX7_note 30 = .ok (.iadd, 1) := by decide +kernel
theorem dX7_note_31 : decode cX7_note 31 = .ok (.iaload, 1) := by decide +kernel
theorem dX7_note_32 : decode cX7_note 32 = .ok (.iastore, 1) := by decide +kernel
theorem dX7_note_33 : decode cX7_note 33 = .ok (.iinc 1 1, 3) := by decide +kernel
theorem dX7_note_36 : decode cX7_note 36 = .ok (.goto (-25), 3) := by decide +kernel
theorem dX7_note_39 : decode cX7_note 39 = .ok (.aload_n 0, 1) := by decide +kernel
theorem dX7_note_40 : decode cX7_note 40 = .ok (.dup, 1) := by decide +kernel
theorem dX7_note_41 : decode cX7_note 41 = .ok (.getfield 135, 3) := by decide +kernel
theorem dX7_note_44 : decode cX7_note 44 = .ok (.iconst 1, 1) := by decide +kernel
theorem dX7_note_45 : decode cX7_note 45 = .ok (.isub, 1) := by decide +kernel
theorem dX7_note_46 : decode cX7_note 46 = .ok (.putfield 135, 3) := by decide +kernel
theorem dX7_note_49 : decode cX7_note 49 = .ok (.aload_n 0, 1) := by decide +kernel
theorem dX7_note_50 : decode cX7_note 50 = .ok (.aload_n 0, 1) := by decide +kernel
theorem dX7_note_51 : decode cX7_note 51 = .ok (.getfield 40, 3) := by decide +kernel
theorem dX7_note_54 : decode cX7_note 54 = .ok (.bipush 42, 2) := by decide +kernel
theorem dX7_note_56 : decode cX7_note 56 = .ok (.aload_n 0, 1) := by decide +kernel
theorem dX7_note_57 : decode cX7_note 57 = .ok (.getfield 135, 3) := by decide +kernel
theorem dX7_note_60 : decode cX7_note 60 = .ok (.imul, 1) := by decide +kernel
theorem dX7_note_61 : decode cX7_note 61 = .ok (.invokevirtual 206, 3) := by decide +kernel
theorem dX7_note_64 : decode cX7_note 64 = .ok (.aload_n 0, 1) := by decide +kernel
theorem dX7_note_65 : decode cX7_note 65 = .ok (.dup, 1) := by decide +kernel
theorem dX7_note_66 : decode cX7_note 66 = .ok (.getfield 135, 3) := by decide +kernel
theorem dX7_note_69 : decode cX7_note 69 = .ok (.iconst 1, 1) := by decide +kernel
theorem dX7_note_70 : decode cX7_note 70 = .ok (.iadd, 1) := by decide +kernel
theorem dX7_note_71 : decode cX7_note 71 = .ok (.putfield 135, 3) := by decide +kernel
theorem dX7_note_74 : decode cX7_note 74 = .ok (.return_, 1) := by decide +kernel
set_option maxRecDepth 20000 in
theorem ggX7_minute_X7_note : GoodIn wsX7_minute wsX7_note := goodIn_r _ [11, 12, 13, 14, 15, 16, 10, 17, 18, 19, 20, 3, 21, 2, 6, 83, 84, 85, 86, 87, 88, 89, 90, 91, 92, 93, 94, 95, 96, 97, 98, 99, 100, 101, 102, 103, 104, 105, 106, 107, 108, 109, 110, 111, 112, 113, 114, 115, 116, 117, 118, 119, 120, 121, 122] (by decide +kernel) (by decide +kernel)
set_option maxRecDepth 20000 in
theorem gX7_minute_X7_note : GoodIn wsX7_minute (wsV RX7 210 RX7 yX7_note wsX7_note) := goodIn_app (goodIn_of _ (by decide +kernel)) ggX7_minute_X7_note
set_option maxRecDepth 20000 in
theorem ggX7_minute_X7_begin : GoodIn wsX7_minute wsX7_begin := goodIn_r _ [25, 2, 4, 3, 6, 5, 26, 27, 28, 29, 30, 31, 83, 84, 85, 86, 87, 88, 89, 90, 91, 92, 93, 94, 95, 96, 97, 98, 99, 100, 101, 102, 103, 104, 105, 106, 107, 108, 109, 110, 111, 112, 113, 114, 115, 116, 117, 118, 119, 120, 121, 122] (by decide +kernel) (by decide +kernel)
set_option maxRecDepth 20000 in
theorem gX7_minute_X7_begin : GoodIn wsX7_minute (wsV RX7 195 RX7 yX7_begin wsX7_begin) := goodIn_app (goodIn_of _ (by decide +kernel)) ggX7_minute_X7_begin
set_option maxRecDepth 20000 in
theorem ggX7_minute_X7_go : GoodIn wsX7_minute wsX7_go := goodIn_r _ [35, 26, 36, 4, 5, 37, 38, 39, 10, 40, 31, 41, 42, 43, 44, 28, 45, 46, 47, 48, 49, 50, 51, 52, 20, 29, 53, 54, 55, 56, 57, 58, 59, 60, 61, 62, 63, 18, 19, 64, 65, 66, 67, 68, 69, 70, 71, 72, 73, 74, 75, 76, 77, 78, 79, 80, 81, 82, 21, 83, 84, 85, 86, 87, 88, 89, 90, 91, 92, 93, 94, 95, 96, 97, 98, 99, 100, 101, 102, 103, 104, 105, 106, 107, 108, 109, 110, 111, 112, 113, 114, 115, 116, 117, 118, 119, 120, 121, 122] (by decide +kernel) (by decide +kernel)
set_option maxRecDepth 20000 in
theorem gX7_minute_X7_go : GoodIn wsX7_minute (wsV RX7 213 RX7 yX7_go wsX7_go) := goodIn_app (goodIn_of _ (by decide +kernel)) ggX7_minute_X7_go
theorem dX7_minute_0 : decode cX7_minute 0 = .ok (.aload_n 0, 1) := by decide +kernel
theorem dX7_minute_1 : decode cX7_minute 1 = .ok (.iconst 0, 1) := by decide +kernel
theorem dX7_minute_2 : decode cX7_minute 2 = .ok (.putfield 71, 3) := by decide +kernel
theorem dX7_minute_5 : decode cX7_minute 5 = .ok (.aload_n 0, 1) := by decide +kernel
theorem dX7_minute_6 : decode cX7_minute 6 = .ok (.invokevirtual 210, 3) := by decide +kernel
theorem dX7_minute_9 : decode cX7_minute 9 = .ok (.aload_n 0, 1) := by decide +kernel
theorem dX7_minute_10 : decode cX7_minute 10 = .ok (.invokevirtual 195, 3) := by decide +kernel
theorem dX7_minute_13 : decode cX7_minute 13 = .ok (.aload_n 0, 1) := by decide +kernel
theorem dX7_minute_14 : decode cX7_minute 14 = .ok (.invokevirtual 213, 3) := by decide +kernel
theorem dX7_minute_17 : decode cX7_minute 17 = .ok (.istore_n 1, 1) := by decide +kernel
theorem dX7_minute_18 : decode cX7_minute 18 = .ok (.iconst 0, 1) := by decide +kernel
theorem dX7_minute_19 : decode cX7_minute 19 = .ok (.istore_n 2, 1) := by decide +kernel
theorem dX7_minute_20 : decode cX7_minute 20 = .ok (.iload_n 2, 1) := by decide +kernel
theorem dX7_minute_21 : decode cX7_minute 21 = .ok (.aload_n 0, 1) := by decide +kernel
theorem dX7_minute_22 : decode cX7_minute 22 = .ok (.getfield 75, 3) := by decide +kernel
theorem dX7_minute_25 : decode cX7_minute 25 = .ok (.if_icmp .ge 21, 3) := by decide +kernel
theorem dX7_minute_28 : decode cX7_minute 28 = .ok (.aload_n 0, 1) := by decide +kernel
theorem dX7_minute_29 : decode cX7_minute 29 = .ok (.getfield 22, 3) := by decide +kernel
theorem dX7_minute_32 : decode cX7_minute 32 = .ok (.iload_n 2, 1) := by decide +kernel
theorem dX7_minute_33 : decode cX7_minute 33 = .ok (.aload_n 0, 1) := by decide +kernel
theorem dX7_minute_34 : decode cX7_minute 34 = .ok (.getfield 56, 3) := by decide +kernel
theorem dX7_minute_37 : decode cX7_minute 37 = .ok (.iload_n 2, 1) := by decide +kernel
theorem dX7_minute_38 : decode cX7_minute 38 = .ok (.iaload, 1) := by decide +kernel
theorem dX7_minute_39 : decode cX7_minute 39 = .ok (.iastore, 1) := by decide +kernel
theorem dX7_minute_40 : decode cX7_minute 40 = .ok (.iinc 2 1, 3) := by decide +kernel
theorem dX7_minute_43 : decode cX7_minute 43 = .ok (.goto (-23), 3) := by decide +kernel
theorem dX7_minute_46 : decode cX7_minute 46 = .ok (.aload_n 0, 1) := by decide +kernel
theorem dX7_minute_47 : decode cX7_minute 47 = .ok (.aload_n 0, 1) := by decide +kernel
theorem dX7_minute_48 : decode cX7_minute 48 = .ok (.getfield 138, 3) := by decide +kernel
theorem dX7_minute_51 : decode cX7_minute 51 = .ok (.putfield 128, 3) := by decide +kernel
theorem dX7_minute_54 : decode cX7_minute 54 = .ok (.iload_n 1, 1) := by decide +kernel
theorem dX7_minute_55 : decode cX7_minute 55 = .ok (.ifCond .ge 7, 3) := by decide +kernel
theorem dX7_minute_58 : decode cX7_minute 58 = .ok (.iconst 0, 1) := by decide +kernel
theorem dX7_minute_59 : decode cX7_minute 59 = .ok (.goto 4, 3) := by decide +kernel
theorem dX7_minute_62 : decode cX7_minute 62 = .ok (.iload_n 1, 1) := by decide +kernel
theorem dX7_minute_63 : decode cX7_minute 63 = .ok (.ireturn, 1) := by decide +kernel
theorem dX7_isTaken_0 : decode cX7_isTaken 0 = .ok (.iconst 0, 1) := by decide +kernel
theorem dX7_isTaken_1 : decode cX7_isTaken 1 = .ok (.istore_n 2, 1) := by decide +kernel
theorem dX7_isTaken_2 : decode cX7_isTaken 2 = .ok (.iconst 0, 1) := by decide +kernel
theorem dX7_isTaken_3 : decode cX7_isTaken 3 = .ok (.istore_n 3, 1) := by decide +kernel
theorem dX7_isTaken_4 : decode cX7_isTaken 4 = .ok (.iload_n 3, 1) := by decide +kernel
theorem dX7_isTaken_5 : decode cX7_isTaken 5 = .ok (.aload_n 0, 1) := by decide +kernel
theorem dX7_isTaken_6 : decode cX7_isTaken 6 = .ok (.getfield 75, 3) := by decide +kernel
theorem dX7_isTaken_9 : decode cX7_isTaken 9 = .ok (.if_icmp .ge 29, 3) := by decide +kernel
theorem dX7_isTaken_12 : decode cX7_isTaken 12 = .ok (.iload_n 2, 1) := by decide +kernel
theorem dX7_isTaken_13 : decode cX7_isTaken 13 = .ok (.ifCond .ne 13, 3) := by decide +kernel
theorem dX7_isTaken_16 : decode cX7_isTaken 16 = .ok (.aload_n 0, 1) := by decide +kernel
theorem dX7_isTaken_17 : decode cX7_isTaken 17 = .ok (.getfield 16, 3) := by decide +kernel
theorem dX7_isTaken_20 : decode cX7_isTaken 20 = .ok (.iload_n 3, 1) := by decide +kernel
theorem dX7_isTaken_21 : decode cX7_isTaken 21 = .ok (.iaload, 1) := by decide +kernel
theorem dX7_isTaken_22 : decode cX7_isTaken 22 = .ok (.iload_n 1, 1) := by decide +kernel
theorem dX7_isTaken_23 : decode cX7_isTaken 23 = .ok (.if_icmp .ne 7, 3) := by decide +kernel
theorem dX7_isTaken_26 : decode cX7_isTaken 26 = .ok (.iconst 1, 1) := by decide +kernel
theorem dX7_isTaken_27 : decode cX7_isTaken 27 = .ok (.goto 4, 3) := by decide +kernel
theorem dX7_isTaken_30 : decode cX7_isTaken 30 = .ok (.iconst 0, 1) := by decide +kernel
theorem dX7_isTaken_31 : decode cX7_isTaken 31 = .ok (.istore_n 2, 1) := by decide +kernel
theorem dX7_isTaken_32 : decode cX7_isTaken 32 = .ok (.iinc 3 1, 3) := by decide +kernel
theorem dX7_isTaken_35 : decode cX7_isTaken 35 = .ok (.goto (-31), 3) := by decide +kernel
theorem dX7_isTaken_38 : decode cX7_isTaken 38 = .ok (.iload_n 2, 1) := by decide +kernel
theorem dX7_isTaken_39 : decode cX7_isTaken 39 = .ok (.ireturn, 1) := by decide +kernel
set_option maxRecDepth 20000 in
theorem ggX7_firstFree_X7_isTaken : GoodIn wsX7_firstFree wsX7_isTaken := goodIn_r _ [5, 6, 7, 8, 9, 10, 11, 12, 13, 14, 15, 16, 17, 18, 19, 20, 21, 22, 23, 24, 25, 26, 27, 28, 29, 30, 31, 32, 33, 34, 35, 36, 37, 38, 39, 40, 41, 42, 43, 44, 45, 46, 47] (by decide +kernel) (by decide +kernel)
set_option maxRecDepth 20000 in
theorem gX7_firstFree_X7_isTaken : GoodIn wsX7_firstFree (wsV RX7 216 RX7 yX7_isTaken wsX7_isTaken) := goodIn_app (goodIn_of _ (by decide +kernel)) ggX7_firstFree_X7_isTaken
theorem dX7_firstFree_0 : decode cX7_firstFree 0 = .ok (.iconst 0, 1) := by decide +kernel
theorem dX7_firstFree_1 : decode cX7_firstFree 1 = .ok (.istore_n 1, 1) := by decide +kernel
theorem dX7_firstFree_2 : decode cX7_firstFree 2 = .ok (.aload_n 0, 1) := by decide +kernel
theorem dX7_firstFree_3 : decode cX7_firstFree 3 = .ok (.iload_n 1, 1) := by decide +kernel
theorem dX7_firstFree_4 : decode cX7_firstFree 4 = .ok (.invokevirtual 216, 3) := by decide +kernel
theorem dX7_firstFree_7 : decode cX7_firstFree 7 = .ok (.ifCond .eq 9, 3) := by decide +kernel
theorem dX7_firstFree_10 : decode cX7_firstFree 10 = .ok (.iinc 1 1, 3) := by decide +kernel
theorem dX7_firstFree_13 : decode cX7_firstFree 13 = .ok (.goto (-11), 3) := by decide +kernel
theorem dX7_firstFree_16 : decode cX7_firstFree 16 = .ok (.iload_n 1, 1) := by decide +kernel
theorem dX7_firstFree_17 : decode cX7_firstFree 17 = .ok (.ireturn, 1) := by decide +kernel
set_option maxRecDepth 20000 in
theorem ggX7_breaks_X7_noRing : GoodIn wsX7_breaks wsX7_noRing := goodIn_r _ [12, 3, 13, 14, 11, 15, 35, 36, 37, 38, 39, 40, 41, 42, 43, 44, 45, 46, 47, 48, 49, 50, 51, 52, 53, 54, 55, 56, 57, 58, 59, 60, 61, 62, 63, 64, 65, 66, 67, 68, 69, 70, 71, 72, 73, 74] (by decide +kernel) (by decide +kernel)
set_option maxRecDepth 20000 in
theorem gX7_breaks_X7_noRing : GoodIn wsX7_breaks (wsV RX7 201 RX7 yX7_noRing wsX7_noRing) := goodIn_app (goodIn_of _ (by decide +kernel)) ggX7_breaks_X7_noRing
set_option maxRecDepth 20000 in
theorem ggX7_breaks_X7_note : GoodIn wsX7_breaks wsX7_note := goodIn_r _ [19, 20, 21, 22, 23, 24, 11, 25, 4, 7, 2, 5, 6, 3, 26, 35, 36, 37, 38, 39, 40, 41, 42, 43, 44, 45, 46, 47, 48, 49, 50, 51, 52, 53, 54, 55, 56, 57, 58, 59, 60, 61, 62, 63, 64, 65, 66, 67, 68, 69, 70, 71, 72, 73, 74] (by decide +kernel) (by decide +kernel)
set_option maxRecDepth 20000 in
theorem gX7_breaks_X7_note : GoodIn wsX7_breaks (wsV RX7 210 RX7 yX7_note wsX7_note) := goodIn_app (goodIn_of _ (by decide +kernel)) ggX7_breaks_X7_note
set_option maxRecDepth 20000 in
theorem ggX7_breaks_X7_firstFree : GoodIn wsX7_breaks wsX7_firstFree := goodIn_r _ [30, 31, 32, 33, 11, 34, 3, 7, 35, 36, 37, 38, 39, 40, 41, 42, 43, 44, 45, 46, 47, 48, 49, 50, 51, 52, 53, 54, 55, 56, 57, 58, 59, 60, 61, 62, 63, 64, 65, 66, 67, 68, 69, 70, 71, 72, 73, 74] (by decide +kernel) (by decide +kernel)
set_option maxRecDepth 20000 in
theorem gX7_breaks_X7_firstFree : GoodIn wsX7_breaks (wsV RX7 219 RX7 yX7_firstFree wsX7_firstFree) := goodIn_app (goodIn_of _ (by decide +kernel)) ggX7_breaks_X7_firstFree
theorem dX7_breaks_0 : decode cX7_breaks 0 = .ok (.aload_n 0, 1) := by decide +kernel
theorem dX7_breaks_1 : decode cX7_breaks 1 = .ok (.iconst 0, 1) := by decide +kernel
theorem dX7_breaks_2 : decode cX7_breaks 2 = .ok (.putfield 71, 3) := by decide +kernel
theorem dX7_breaks_5 : decode cX7_breaks 5 = .ok (.aload_n 0, 1) := by decide +kernel
theorem dX7_breaks_6 : decode cX7_breaks 6 = .ok (.iload_n 1, 1) := by decide +kernel
theorem dX7_breaks_7 : decode cX7_breaks 7 = .ok (.invokevirtual 201, 3) := by decide +kernel
theorem dX7_breaks_10 : decode cX7_breaks 10 = .ok (.ifCond .eq 5, 3) := by decide +kernel
theorem dX7_breaks_13 : decode cX7_breaks 13 = .ok (.iconst (-1), 1) := by decide +kernel
theorem dX7_breaks_14 : decode cX7_breaks 14 = .ok (.ireturn, 1) := by decide +kernel
theorem dX7_breaks_15 : decode cX7_breaks 15 = .ok (.aload_n 0, 1) := by decide +kernel
theorem dX7_breaks_16 : decode cX7_breaks 16 = .ok (.getfield 19, 3) := by decide +kernel
theorem dX7_breaks_19 : decode cX7_breaks 19 = .ok (.iload_n 1, 1) := by decide +kernel
theorem dX7_breaks_20 : decode cX7_breaks 20 = .ok (.iaload, 1) := by decide +kernel
theorem dX7_breaks_21 : decode cX7_breaks 21 = .ok (.iconst 4, 1) := by decide +kernel
theorem dX7_breaks_22 : decode cX7_breaks 22 = .ok (.if_icmp .ge 6, 3) := by decide +kernel
theorem dX7_breaks_25 : decode cX7_breaks 25 = .ok (.bipush (-3), 2) := by decide +kernel
theorem dX7_breaks_27 : decode cX7_breaks 27 = .ok (.ireturn, 1) := by decide +kernel
theorem dX7_breaks_28 : decode cX7_breaks 28 = .ok (.aload_n 0, 1) := by decide +kernel
theorem dX7_breaks_29 : decode cX7_breaks 29 = .ok (.getfield 75, 3) := by decide +kernel
theorem dX7_breaks_32 : decode cX7_breaks 32 = .ok (.bipush 8, 2) := by decide +kernel
theorem dX7_breaks_34 : decode cX7_breaks 34 = .ok (.if_icmp .ne 6, 3) := by decide +kernel
theorem dX7_breaks_37 : decode cX7_breaks 37 = .ok (.bipush (-4), 2) := by decide +kernel
theorem dX7_breaks_39 : decode cX7_breaks 39 = .ok (.ireturn, 1) := by decide +kernel
theorem dX7_breaks_40 : decode cX7_breaks 40 = .ok (.aload_n 0, 1) := by decide +kernel
theorem dX7_breaks_41 : decode cX7_breaks 41 = .ok (.invokevirtual 210, 3) := by decide +kernel
theorem dX7_breaks_44 : decode cX7_breaks 44 = .ok (.aload_n 0, 1) := by decide +kernel
theorem dX7_breaks_45 : decode cX7_breaks 45 = .ok (.getfield 13, 3) := by decide +kernel
theorem dX7_breaks_48 : decode cX7_breaks 48 = .ok (.aload_n 0, 1) := by decide +kernel
theorem dX7_breaks_49 : decode cX7_breaks 49 = .ok (.getfield 75, 3) := by decide +kernel
theorem dX7_breaks_52 : decode cX7_breaks 52 = .ok (.aload_n 0, 1) := by decide +kernel
theorem dX7_breaks_53 : decode cX7_breaks 53 = .ok (.getfield 13, 3) := by decide +kernel
theorem dX7_breaks_56 : decode cX7_breaks 56 = .ok (.iload_n 1, 1) := by decide +kernel
theorem dX7_breaks_57 : decode cX7_breaks 57 = .ok (.iaload, 1) := by decide +kernel
theorem dX7_breaks_58 : decode cX7_breaks 58 = .ok (.iastore, 1) := by decide +kernel
theorem dX7_breaks_59 : decode cX7_breaks 59 = .ok (.aload_n 0, 1) := by decide +kernel
theorem dX7_breaks_60 : decode cX7_breaks 60 = .ok (.getfield 22, 3) := by decide +kernel
theorem dX7_breaks_63 : decode cX7_breaks 63 = .ok (.aload_n 0, 1) := by decide +kernel
theorem dX7_breaks_64 : decode cX7_breaks 64 = .ok (.getfield 75, 3) := by decide +kernel
theorem dX7_breaks_67 : decode cX7_breaks 67 = .ok (.aload_n 0, 1) := by decide +kernel
theorem dX7_breaks_68 : decode cX7_breaks 68 = .ok (.getfield 22, 3) := by decide +kernel
theorem dX7_breaks_71 : decode cX7_breaks 71 = .ok (.iload_n 1, 1) := by decide +kernel
theorem dX7_breaks_72 : decode cX7_breaks 72 = .ok (.iaload, 1) := by decide +kernel
theorem dX7_breaks_73 : decode cX7_breaks 73 = .ok (.iastore, 1) := by decide +kernel
theorem dX7_breaks_74 : decode cX7_breaks 74 = .ok (.aload_n 0, 1) := by decide +kernel
theorem dX7_breaks_75 : decode cX7_breaks 75 = .ok (.getfield 25, 3) := by decide +kernel
theorem dX7_breaks_78 : decode cX7_breaks 78 = .ok (.aload_n 0, 1) := by decide +kernel
theorem dX7_breaks_79 : decode cX7_breaks 79 = .ok (.getfield 75, 3) := by decide +kernel
theorem dX7_breaks_82 : decode cX7_breaks 82 = .ok (.aload_n 0, 1) := by decide +kernel
theorem dX7_breaks_83 : decode cX7_breaks 83 = .ok (.getfield 25, 3) := by decide +kernel
theorem dX7_breaks_86 : decode cX7_breaks 86 = .ok (.iload_n 1, 1) := by decide +kernel
theorem dX7_breaks_87 : decode cX7_breaks 87 = .ok (.iaload, 1) := by decide +kernel
theorem dX7_breaks_88 : decode cX7_breaks 88 = .ok (.iastore, 1) := by decide +kernel
theorem dX7_breaks_89 : decode cX7_breaks 89 = .ok (.aload_n 0, 1) := by decide +kernel
theorem dX7_breaks_90 : decode cX7_breaks 90 = .ok (.getfield 16, 3) := by decide +kernel
theorem dX7_breaks_93 : decode cX7_breaks 93 = .ok (.aload_n 0, 1) := by decide +kernel
theorem dX7_breaks_94 : decode cX7_breaks 94 = .ok (.getfield 75, 3) := by decide +kernel
theorem dX7_breaks_97 : decode cX7_breaks 97 = .ok (.aload_n 0, 1) := by decide +kernel
theorem dX7_breaks_98 : decode cX7_breaks 98 = .ok (.invokevirtual 219, 3) := by decide +kernel
theorem dX7_breaks_101 : decode cX7_breaks 101 = .ok (.iastore, 1) := by decide +kernel
theorem dX7_breaks_102 : decode cX7_breaks 102 = .ok (.aload_n 0, 1) := by decide +kernel
theorem dX7_breaks_103 : decode cX7_breaks 103 = .ok (.getfield 19, 3) := by decide +kernel
theorem dX7_breaks_106 : decode cX7_breaks 106 = .ok (.aload_n 0, 1) := by decide +kernel
theorem dX7_breaks_107 : decode cX7_breaks 107 = .ok (.getfield 75, 3) := by decide +kernel
theorem dX7_breaks_110 : decode cX7_breaks 110 = .ok (.aload_n 0, 1) := by decide +kernel
theorem dX7_breaks_111 : decode cX7_breaks 111 = .ok (.getfield 19, 3) := by decide +kernel
theorem dX7_breaks_114 : decode cX7_breaks 114 = .ok (.iload_n 1, 1) := by decide +kernel
theorem dX7_breaks_115 : decode cX7_breaks 115 = .ok (.iaload, 1) := by decide +kernel
theorem dX7_breaks_116 : decode cX7_breaks 116 = .ok (.aload_n 0, 1) := by decide +kernel
theorem dX7_breaks_117 : decode cX7_breaks 117 = .ok (.getfield 19, 3) := by decide +kernel
theorem dX7_breaks_120 : decode cX7_breaks 120 = .ok (.iload_n 1, 1) := by decide +kernel
theorem dX7_breaks_121 : decode cX7_breaks 121 = .ok (.iaload, 1) := by decide +kernel
theorem dX7_breaks_122 : decode cX7_breaks 122 = .ok (.iconst 2, 1) := by decide +kernel
theorem dX7_breaks_123 : decode cX7_breaks 123 = .ok (.idiv, 1) := by decide +kernel
theorem dX7_breaks_124 : decode cX7_breaks 124 = .ok (.isub, 1) := by decide +kernel
theorem dX7_breaks_125 : decode cX7_breaks 125 = .ok (.iastore, 1) := by decide +kernel
theorem dX7_breaks_126 : decode cX7_breaks 126 = .ok (.aload_n 0, 1) := by decide +kernel
theorem dX7_breaks_127 : decode cX7_breaks 127 = .ok (.getfield 19, 3) := by decide +kernel
theorem dX7_breaks_130 : decode cX7_breaks 130 = .ok (.iload_n 1, 1) := by decide +kernel
theorem dX7_breaks_131 : decode cX7_breaks 131 = .ok (.dup2, 1) := by decide +kernel
theorem dX7_breaks_132 : decode cX7_breaks 132 = .ok (.iaload, 1) := by decide +kernel
theorem dX7_breaks_133 : decode cX7_breaks 133 = .ok (.iconst 2, 1) := by decide +kernel
theorem dX7_breaks_134 : decode cX7_breaks 134 = .ok (.idiv, 1) := by decide +kernel
theorem dX7_breaks_135 : decode cX7_breaks 135 = .ok (.iastore, 1) := by decide +kernel
theorem dX7_breaks_136 : decode cX7_breaks 136 = .ok (.aload_n 0, 1) := by decide +kernel
theorem dX7_breaks_137 : decode cX7_breaks 137 = .ok (.dup, 1) := by decide +kernel
theorem dX7_breaks_138 : decode cX7_breaks 138 = .ok (.getfield 75, 3) := by decide +kernel
theorem dX7_breaks_141 : decode cX7_breaks 141 = .ok (.iconst 1, 1) := by decide +kernel
theorem dX7_breaks_142 : decode cX7_breaks 142 = .ok (.iadd, 1) := by decide +kernel
theorem dX7_breaks_143 : decode cX7_breaks 143 = .ok (.putfield 75, 3) := by decide +kernel
theorem dX7_breaks_146 : decode cX7_breaks 146 = .ok (.aload_n 0, 1) := by decide +kernel
theorem dX7_breaks_147 : decode cX7_breaks 147 = .ok (.getfield 75, 3) := by decide +kernel
theorem dX7_breaks_150 : decode cX7_breaks 150 = .ok (.iconst 1, 1) := by decide +kernel
theorem dX7_breaks_151 : decode cX7_breaks 151 = .ok (.isub, 1) := by decide +kernel
theorem dX7_breaks_152 : decode cX7_breaks 152 = .ok (.ireturn, 1) := by decide +kernel
theorem dX7_drop_0 : decode cX7_drop 0 = .ok (.aload_n 0, 1) := by decide +kernel
theorem dX7_drop_1 : decode cX7_drop 1 = .ok (.dup, 1) := by decide +kernel
theorem dX7_drop_2 : decode cX7_drop 2 = .ok (.getfield 75, 3) := by decide +kernel
theorem dX7_drop_5 : decode cX7_drop 5 = .ok (.iconst 1, 1) := by decide +kernel
theorem dX7_drop_6 : decode cX7_drop 6 = .ok (.isub, 1) := by decide +kernel
theorem dX7_drop_7 : decode cX7_drop 7 = .ok (.putfield 75, 3) := by decide +kernel
theorem dX7_drop_10 : decode cX7_drop 10 = .ok (.iload_n 1, 1) := by decide +kernel
theorem dX7_drop_11 : decode cX7_drop 11 = .ok (.istore_n 2, 1) := by decide +kernel
theorem dX7_drop_12 : decode cX7_drop 12 = .ok (.iload_n 2, 1) := by decide +kernel
theorem dX7_drop_13 : decode cX7_drop 13 = .ok (.aload_n 0, 1) := by decide +kernel
theorem dX7_drop_14 : decode cX7_drop 14 = .ok (.getfield 75, 3) := by decide +kernel
theorem dX7_drop_17 : decode cX7_drop 17 = .ok (.if_icmp .ge 79, 3) := by decide +kernel
theorem dX7_drop_20 : decode cX7_drop 20 = .ok (.aload_n 0, 1) := by decide +kernel
theorem dX7_drop_21 : decode cX7_drop 21 = .ok (.getfield 13, 3) := by decide +kernel
theorem dX7_drop_24 : decode cX7_drop 24 = .ok (.iload_n 2, 1) := by decide +kernel
theorem dX7_drop_25 : decode cX7_drop 25 = .ok (.aload_n 0, 1) := by decide +kernel
theorem dX7_drop_26 : decode cX7_drop 26 = .ok (.getfield 13, 3) := by decide +kernel
theorem dX7_drop_29 : decode cX7_drop 29 = .ok (.iload_n 2, 1) := by decide +kernel
theorem dX7_drop_30 : decode cX7_drop 30 = .ok (.iconst 1, 1) := by decide +kernel
theorem dX7_drop_31 : decode cX7_drop 31 = .ok (.iadd, 1) := by decide +kernel
theorem dX7_drop_32 : decode cX7_drop 32 = .ok (.iaload, 1) := by decide +kernel
theorem dX7_drop_33 : decode cX7_drop 33 = .ok (.iastore, 1) := by decide +kernel
theorem dX7_drop_34 : decode cX7_drop 34 = .ok (.aload_n 0, 1) := by decide +kernel
theorem dX7_drop_35 : decode cX7_drop 35 = .ok (.getfield 16, 3) := by decide +kernel
theorem dX7_drop_38 : decode cX7_drop 38 = .ok (.iload_n 2, 1) := by decide +kernel
theorem dX7_drop_39 : decode cX7_drop 39 = .ok (.aload_n 0, 1) := by decide +kernel
theorem dX7_drop_40 : decode cX7_drop 40 = .ok (.getfield 16, 3) := by decide +kernel
theorem dX7_drop_43 : decode cX7_drop 43 = .ok (.iload_n 2, 1) := by decide +kernel
theorem dX7_drop_44 : decode cX7_drop 44 = .ok (.iconst 1, 1) := by decide +kernel
theorem dX7_drop_45 : decode cX7_drop 45 = .ok (.iadd, 1) := by decide +kernel
theorem dX7_drop_46 : decode cX7_drop 46 = .ok (.iaload, 1) := by decide +kernel
theorem dX7_drop_47 : decode cX7_drop 47 = .ok (.iastore, 1) := by decide +kernel
theorem dX7_drop_48 : decode cX7_drop 48 = .ok (.aload_n 0, 1) := by decide +kernel
theorem dX7_drop_49 : decode cX7_drop 49 = .ok (.getfield 19, 3) := by decide +kernel
theorem dX7_drop_52 : decode cX7_drop 52 = .ok (.iload_n 2, 1) := by decide +kernel
theorem dX7_drop_53 : decode cX7_drop 53 = .ok (.aload_n 0, 1) := by decide +kernel
theorem dX7_drop_54 : decode cX7_drop 54 = .ok (.getfield 19, 3) := by decide +kernel
theorem dX7_drop_57 : decode cX7_drop 57 = .ok (.iload_n 2, 1) := by decide +kernel
theorem dX7_drop_58 : decode cX7_drop 58 = .ok (.iconst 1, 1) := by decide +kernel
theorem dX7_drop_59 : decode cX7_drop 59 = .ok (.iadd, 1) := by decide +kernel
theorem dX7_drop_60 : decode cX7_drop 60 = .ok (.iaload, 1) := by decide +kernel
theorem dX7_drop_61 : decode cX7_drop 61 = .ok (.iastore, 1) := by decide +kernel
theorem dX7_drop_62 : decode cX7_drop 62 = .ok (.aload_n 0, 1) := by decide +kernel
theorem dX7_drop_63 : decode cX7_drop 63 = .ok (.getfield 22, 3) := by decide +kernel
theorem dX7_drop_66 : decode cX7_drop 66 = .ok (.iload_n 2, 1) := by decide +kernel
theorem dX7_drop_67 : decode cX7_drop 67 = .ok (.aload_n 0, 1) := by decide +kernel
theorem dX7_drop_68 : decode cX7_drop 68 = .ok (.getfield 22, 3) := by decide +kernel
theorem dX7_drop_71 : decode cX7_drop 71 = .ok (.iload_n 2, 1) := by decide +kernel
theorem dX7_drop_72 : decode cX7_drop 72 = .ok (.iconst 1, 1) := by decide +kernel
theorem dX7_drop_73 : decode cX7_drop 73 = .ok (.iadd, 1) := by decide +kernel
theorem dX7_drop_74 : decode cX7_drop 74 = .ok (.iaload, 1) := by decide +kernel
theorem dX7_drop_75 : decode cX7_drop 75 = .ok (.iastore, 1) := by decide +kernel
theorem dX7_drop_76 : decode cX7_drop 76 = .ok (.aload_n 0, 1) := by decide +kernel
theorem dX7_drop_77 : decode cX7_drop 77 = .ok (.getfield 25, 3) := by decide +kernel
theorem dX7_drop_80 : decode cX7_drop 80 = .ok (.iload_n 2, 1) := by decide +kernel
theorem dX7_drop_81 : decode cX7_drop 81 = .ok (.aload_n 0, 1) := by decide +kernel
theorem dX7_drop_82 : decode cX7_drop 82 = .ok (.getfield 25, 3) := by decide +kernel
theorem dX7_drop_85 : decode cX7_drop 85 = .ok (.iload_n 2, 1) := by decide +kernel
theorem dX7_drop_86 : decode cX7_drop 86 = .ok (.iconst 1, 1) := by decide +kernel
theorem dX7_drop_87 : decode cX7_drop 87 = .ok (.iadd, 1) := by decide +kernel
theorem dX7_drop_88 : decode cX7_drop 88 = .ok (.iaload, 1) := by decide +kernel
theorem dX7_drop_89 : decode cX7_drop 89 = .ok (.iastore, 1) := by decide +kernel
theorem dX7_drop_90 : decode cX7_drop 90 = .ok (.iinc 2 1, 3) := by decide +kernel
theorem dX7_drop_93 : decode cX7_drop 93 = .ok (.goto (-81), 3) := by decide +kernel
theorem dX7_drop_96 : decode cX7_drop 96 = .ok (.return_, 1) := by decide +kernel
set_option maxRecDepth 20000 in
theorem ggX7_joins_X7_noRing : GoodIn wsX7_joins wsX7_noRing := goodIn_r _ [7, 8, 9, 10, 6, 11, 31, 32, 33, 34, 35, 36, 37, 38, 39, 40, 41, 42, 43, 44, 45, 46, 47, 48, 49, 50, 51, 52, 53, 54, 55, 56, 57, 58, 59, 60, 61, 62, 63, 64, 65, 66, 67, 68, 69, 70] (by decide +kernel) (by decide +kernel)
set_option maxRecDepth 20000 in
theorem gX7_joins_X7_noRing : GoodIn wsX7_joins (wsV RX7 201 RX7 yX7_noRing wsX7_noRing) := goodIn_app (goodIn_of _ (by decide +kernel)) ggX7_joins_X7_noRing
set_option maxRecDepth 20000 in
theorem ggX7_joins_X7_note : GoodIn wsX7_joins wsX7_note := goodIn_r _ [15, 16, 17, 18, 19, 20, 6, 21, 22, 23, 2, 24, 25, 8, 26, 31, 32, 33, 34, 35, 36, 37, 38, 39, 40, 41, 42, 43, 44, 45, 46, 47, 48, 49, 50, 51, 52, 53, 54, 55, 56, 57, 58, 59, 60, 61, 62, 63, 64, 65, 66, 67, 68, 69, 70] (by decide +kernel) (by decide +kernel)
set_option maxRecDepth 20000 in
theorem gX7_joins_X7_note : GoodIn wsX7_joins (wsV RX7 210 RX7 yX7_note wsX7_note) := goodIn_app (goodIn_of _ (by decide +kernel)) ggX7_joins_X7_note
set_option maxRecDepth 20000 in
theorem ggX7_joins_X7_drop : GoodIn wsX7_joins wsX7_drop := goodIn_r _ [30, 8, 22, 23, 2, 24, 25, 31, 32, 33, 34, 35, 36, 37, 38, 39, 40, 41, 42, 43, 44, 45, 46, 47, 48, 49, 50, 51, 52, 53, 54, 55, 56, 57, 58, 59, 60, 61, 62, 63, 64, 65, 66, 67, 68, 69, 70] (by decide +kernel) (by decide +kernel)
set_option maxRecDepth 20000 in
theorem gX7_joins_X7_drop : GoodIn wsX7_joins (wsV RX7 222 RX7 yX7_drop wsX7_drop) := goodIn_app (goodIn_of _ (by decide +kernel)) ggX7_joins_X7_drop
theorem dX7_joins_0 : decode cX7_joins 0 = .ok (.aload_n 0, 1) := by decide +kernel
theorem dX7_joins_1 : decode cX7_joins 1 = .ok (.iconst 0, 1) := by decide +kernel
theorem dX7_joins_2 : decode cX7_joins 2 = .ok (.putfield 71, 3) := by decide +kernel
theorem dX7_joins_5 : decode cX7_joins 5 = .ok (.aload_n 0, 1) := by decide +kernel
theorem dX7_joins_6 : decode cX7_joins 6 = .ok (.iload_n 1, 1) := by decide +kernel
theorem dX7_joins_7 : decode cX7_joins 7 = .ok (.invokevirtual 201, 3) := by decide +kernel
theorem dX7_joins_10 : decode cX7_joins 10 = .ok (.ifCond .ne 11, 3) := by decide +kernel
theorem dX7_joins_13 : decode cX7_joins 13 = .ok (.aload_n 0, 1) := by decide +kernel
theorem dX7_joins_14 : decode cX7_joins 14 = .ok (.iload_n 2, 1) := by decide +kernel
theorem dX7_joins_15 : decode cX7_joins 15 = .ok (.invokevirtual 201, 3) := by decide +kernel
theorem dX7_joins_18 : decode cX7_joins 18 = .ok (.ifCond .eq 5, 3) := by decide +kernel
theorem dX7_joins_21 : decode cX7_joins 21 = .ok (.iconst (-1), 1) := by decide +kernel
theorem dX7_joins_22 : decode cX7_joins 22 = .ok (.ireturn, 1) := by decide +kernel
theorem dX7_joins_23 : decode cX7_joins 23 = .ok (.iload_n 1, 1) := by decide +kernel
theorem dX7_joins_24 : decode cX7_joins 24 = .ok (.iload_n 2, 1) := by decide +kernel
theorem dX7_joins_25 : decode cX7_joins 25 = .ok (.if_icmp .ne 6, 3) := by decide +kernel
theorem dX7_joins_28 : decode cX7_joins 28 = .ok (.bipush (-2), 2) := by decide +kernel
theorem dX7_joins_30 : decode cX7_joins 30 = .ok (.ireturn, 1) := by decide +kernel
theorem dX7_joins_31 : decode cX7_joins 31 = .ok (.aload_n 0, 1) := by decide +kernel
theorem dX7_joins_32 : decode cX7_joins 32 = .ok (.getfield 19, 3) := by decide +kernel
theorem dX7_joins_35 : decode cX7_joins 35 = .ok (.iload_n 1, 1) := by decide +kernel
theorem dX7_joins_36 : decode cX7_joins 36 = .ok (.iaload, 1) := by decide +kernel
theorem dX7_joins_37 : decode cX7_joins 37 = .ok (.aload_n 0, 1) := by decide +kernel
theorem dX7_joins_38 : decode cX7_joins 38 = .ok (.getfield 19, 3) := by decide +kernel
theorem dX7_joins_41 : decode cX7_joins 41 = .ok (.iload_n 2, 1) := by decide +kernel
theorem dX7_joins_42 : decode cX7_joins 42 = .ok (.iaload, 1) := by decide +kernel
theorem dX7_joins_43 : decode cX7_joins 43 = .ok (.iadd, 1) := by decide +kernel
theorem dX7_joins_44 : decode cX7_joins 44 = .ok (.istore_n 3, 1) := by decide +kernel
theorem dX7_joins_45 : decode cX7_joins 45 = .ok (.iload_n 3, 1) := by decide +kernel
theorem dX7_joins_46 : decode cX7_joins 46 = .ok (.bipush 9, 2) := by decide +kernel
theorem dX7_joins_48 : decode cX7_joins 48 = .ok (.if_icmp .le 6, 3) := by decide +kernel
theorem dX7_joins_51 : decode cX7_joins 51 = .ok (.bipush (-4), 2) := by decide +kernel
theorem dX7_joins_53 : decode cX7_joins 53 = .ok (.ireturn, 1) := by decide +kernel
theorem dX7_joins_54 : decode cX7_joins 54 = .ok (.aload_n 0, 1) := by decide +kernel
theorem dX7_joins_55 : decode cX7_joins 55 = .ok (.invokevirtual 210, 3) := by decide +kernel
theorem dX7_joins_58 : decode cX7_joins 58 = .ok (.aload_n 0, 1) := by decide +kernel
theorem dX7_joins_59 : decode cX7_joins 59 = .ok (.getfield 19, 3) := by decide +kernel
theorem dX7_joins_62 : decode cX7_joins 62 = .ok (.iload_n 1, 1) := by decide +kernel
theorem dX7_joins_63 : decode cX7_joins 63 = .ok (.iload_n 3, 1) := by decide +kernel
theorem dX7_joins_64 : decode cX7_joins 64 = .ok (.iastore, 1) := by decide +kernel
theorem dX7_joins_65 : decode cX7_joins 65 = .ok (.aload_n 0, 1) := by decide +kernel
theorem dX7_joins_66 : decode cX7_joins 66 = .ok (.iload_n 2, 1) := by decide +kernel
theorem dX7_joins_67 : decode cX7_joins 67 = .ok (.invokevirtual 222, 3) := by decide +kernel
theorem dX7_joins_70 : decode cX7_joins 70 = .ok (.iload_n 3, 1) := by decide +kernel
theorem dX7_joins_71 : decode cX7_joins 71 = .ok (.ireturn, 1) := by decide +kernel
set_option maxRecDepth 20000 in
theorem ggX7_home_X7_noRing : GoodIn wsX7_home wsX7_noRing := goodIn_r _ [7, 2, 8, 9, 6, 10, 31, 32, 33, 34, 35, 36, 37, 38, 39, 40, 41, 42, 43, 44, 45, 46, 47, 48, 49, 50, 51, 52, 53, 54, 55, 56, 57, 58, 59, 60, 61, 62, 63, 64, 65, 66, 67, 68, 69, 70] (by decide +kernel) (by decide +kernel)
set_option maxRecDepth 20000 in
theorem gX7_home_X7_noRing : GoodIn wsX7_home (wsV RX7 201 RX7 yX7_noRing wsX7_noRing) := goodIn_app (goodIn_of _ (by decide +kernel)) ggX7_home_X7_noRing
set_option maxRecDepth 20000 in
theorem ggX7_home_X7_note : GoodIn wsX7_home wsX7_note := goodIn_r _ [14, 15, 16, 17, 18, 19, 6, 20, 21, 22, 23, 24, 25, 2, 26, 31, 32, 33, 34, 35, 36, 37, 38, 39, 40, 41, 42, 43, 44, 45, 46, 47, 48, 49, 50, 51, 52, 53, 54, 55, 56, 57, 58, 59, 60, 61, 62, 63, 64, 65, 66, 67, 68, 69, 70] (by decide +kernel) (by decide +kernel)
set_option maxRecDepth 20000 in
theorem gX7_home_X7_note : GoodIn wsX7_home (wsV RX7 210 RX7 yX7_note wsX7_note) := goodIn_app (goodIn_of _ (by decide +kernel)) ggX7_home_X7_note
set_option maxRecDepth 20000 in
theorem ggX7_home_X7_drop : GoodIn wsX7_home wsX7_drop := goodIn_r _ [30, 2, 21, 22, 23, 24, 25, 31, 32, 33, 34, 35, 36, 37, 38, 39, 40, 41, 42, 43, 44, 45, 46, 47, 48, 49, 50, 51, 52, 53, 54, 55, 56, 57, 58, 59, 60, 61, 62, 63, 64, 65, 66, 67, 68, 69, 70] (by decide +kernel) (by decide +kernel)
set_option maxRecDepth 20000 in
theorem gX7_home_X7_drop : GoodIn wsX7_home (wsV RX7 222 RX7 yX7_drop wsX7_drop) := goodIn_app (goodIn_of _ (by decide +kernel)) ggX7_home_X7_drop
theorem dX7_home_0 : decode cX7_home 0 = .ok (.aload_n 0, 1) := by decide +kernel
theorem dX7_home_1 : decode cX7_home 1 = .ok (.iconst 0, 1) := by decide +kernel
theorem dX7_home_2 : decode cX7_home 2 = .ok (.putfield 71, 3) := by decide +kernel
theorem dX7_home_5 : decode cX7_home 5 = .ok (.aload_n 0, 1) := by decide +kernel
theorem dX7_home_6 : decode cX7_home 6 = .ok (.iload_n 1, 1) := by decide +kernel
theorem dX7_home_7 : decode cX7_home 7 = .ok (.invokevirtual 201, 3) := by decide +kernel
theorem dX7_home_10 : decode cX7_home 10 = .ok (.ifCond .eq 5, 3) := by decide +kernel
theorem dX7_home_13 : decode cX7_home 13 = .ok (.iconst (-1), 1) := by decide +kernel
theorem dX7_home_14 : decode cX7_home 14 = .ok (.ireturn, 1) := by decide +kernel
theorem dX7_home_15 : decode cX7_home 15 = .ok (.aload_n 0, 1) := by decide +kernel
theorem dX7_home_16 : decode cX7_home 16 = .ok (.invokevirtual 210, 3) := by decide +kernel
theorem dX7_home_19 : decode cX7_home 19 = .ok (.aload_n 0, 1) := by decide +kernel
theorem dX7_home_20 : decode cX7_home 20 = .ok (.iload_n 1, 1) := by decide +kernel
theorem dX7_home_21 : decode cX7_home 21 = .ok (.invokevirtual 222, 3) := by decide +kernel
theorem dX7_home_24 : decode cX7_home 24 = .ok (.aload_n 0, 1) := by decide +kernel
theorem dX7_home_25 : decode cX7_home 25 = .ok (.getfield 75, 3) := by decide +kernel
theorem dX7_home_28 : decode cX7_home 28 = .ok (.ireturn, 1) := by decide +kernel
set_option maxRecDepth 20000 in
theorem ggX7_hush_X7_note : GoodIn wsX7_hush wsX7_note := goodIn_r _ [8, 9, 10, 11, 12, 13, 7, 14, 15, 16, 17, 3, 18, 2, 19, 20, 21, 22, 23, 24, 25, 26, 27, 28, 29, 30, 31, 32, 33, 34, 35, 36, 37, 38, 39, 40, 41, 42, 43, 44, 45, 46, 47, 48, 49, 50, 51, 52, 53, 54, 55, 56, 57, 58, 59] (by decide +kernel) (by decide +kernel)
set_option maxRecDepth 20000 in
theorem gX7_hush_X7_note : GoodIn wsX7_hush (wsV RX7 210 RX7 yX7_note wsX7_note) := goodIn_app (goodIn_of _ (by decide +kernel)) ggX7_hush_X7_note
theorem dX7_hush_0 : decode cX7_hush 0 = .ok (.aload_n 0, 1) := by decide +kernel
theorem dX7_hush_1 : decode cX7_hush 1 = .ok (.iconst 0, 1) := by decide +kernel
theorem dX7_hush_2 : decode cX7_hush 2 = .ok (.putfield 71, 3) := by decide +kernel
theorem dX7_hush_5 : decode cX7_hush 5 = .ok (.aload_n 0, 1) := by decide +kernel
theorem dX7_hush_6 : decode cX7_hush 6 = .ok (.invokevirtual 210, 3) := by decide +kernel
theorem dX7_hush_9 : decode cX7_hush 9 = .ok (.iconst 0, 1) := by decide +kernel
theorem dX7_hush_10 : decode cX7_hush 10 = .ok (.istore_n 1, 1) := by decide +kernel
theorem dX7_hush_11 : decode cX7_hush 11 = .ok (.iconst 0, 1) := by decide +kernel
theorem dX7_hush_12 : decode cX7_hush 12 = .ok (.istore_n 2, 1) := by decide +kernel
theorem dX7_hush_13 : decode cX7_hush 13 = .ok (.iload_n 2, 1) := by decide +kernel
theorem dX7_hush_14 : decode cX7_hush 14 = .ok (.aload_n 0, 1) := by decide +kernel
theorem dX7_hush_15 : decode cX7_hush 15 = .ok (.getfield 75, 3) := by decide +kernel
theorem dX7_hush_18 : decode cX7_hush 18 = .ok (.if_icmp .ge 34, 3) := by decide +kernel
theorem dX7_hush_21 : decode cX7_hush 21 = .ok (.iload_n 1, 1) := by decide +kernel
theorem dX7_hush_22 : decode cX7_hush 22 = .ok (.aload_n 0, 1) := by decide +kernel
theorem dX7_hush_23 : decode cX7_hush 23 = .ok (.getfield 22, 3) := by decide +kernel
theorem dX7_hush_26 : decode cX7_hush 26 = .ok (.iload_n 2, 1) := by decide +kernel
theorem dX7_hush_27 : decode cX7_hush 27 = .ok (.iaload, 1) := by decide +kernel
theorem dX7_hush_28 : decode cX7_hush 28 = .ok (.iconst 1, 1) := by decide +kernel
theorem dX7_hush_29 : decode cX7_hush 29 = .ok (.if_icmp .ne 7, 3) := by decide +kernel
theorem dX7_hush_32 : decode cX7_hush 32 = .ok (.iconst 0, 1) := by decide +kernel
theorem dX7_hush_33 : decode cX7_hush 33 = .ok (.goto 4, 3) := by decide +kernel
theorem dX7_hush_36 : decode cX7_hush 36 = .ok (.iconst 1, 1) := by decide +kernel
theorem dX7_hush_37 : decode cX7_hush 37 = .ok (.iadd, 1) := by decide +kernel
theorem dX7_hush_38 : decode cX7_hush 38 = .ok (.istore_n 1, 1) := by decide +kernel
theorem dX7_hush_39 : decode cX7_hush 39 = .ok (.aload_n 0, 1) := by decide +kernel
theorem dX7_hush_40 : decode cX7_hush 40 = .ok (.getfield 22, 3) := by decide +kernel
theorem dX7_hush_43 : decode cX7_hush 43 = .ok (.iload_n 2, 1) := by decide +kernel
theorem dX7_hush_44 : decode cX7_hush 44 = .ok (.iconst 1, 1) := by decide +kernel
theorem dX7_hush_45 : decode cX7_hush 45 = .ok (.iastore, 1) := by decide +kernel
theorem dX7_hush_46 : decode cX7_hush 46 = .ok (.iinc 2 1, 3) := by decide +kernel
theorem dX7_hush_49 : decode cX7_hush 49 = .ok (.goto (-36), 3) := by decide +kernel
theorem dX7_hush_52 : decode cX7_hush 52 = .ok (.iload_n 1, 1) := by decide +kernel
theorem dX7_hush_53 : decode cX7_hush 53 = .ok (.ireturn, 1) := by decide +kernel
set_option maxRecDepth 20000 in
theorem ggX7_undo_X7_takePage : GoodIn wsX7_undo wsX7_takePage := goodIn_r _ [8, 9, 10, 11, 12, 13, 14, 15, 16, 17, 18, 19, 20, 21, 22, 23, 24, 25, 26, 27, 28, 29, 30, 31, 32, 33, 34, 35, 36, 37, 38, 39, 40, 41, 42, 43, 44, 45, 46, 47, 48, 49, 50, 51, 52, 53, 54, 55] (by decide +kernel) (by decide +kernel)
set_option maxRecDepth 20000 in
theorem gX7_undo_X7_takePage : GoodIn wsX7_undo (wsV RX7 226 RX7 yX7_takePage wsX7_takePage) := goodIn_app (goodIn_of _ (by decide +kernel)) ggX7_undo_X7_takePage
theorem dX7_undo_0 : decode cX7_undo 0 = .ok (.aload_n 0, 1) := by decide +kernel
theorem dX7_undo_1 : decode cX7_undo 1 = .ok (.iconst 0, 1) := by decide +kernel
theorem dX7_undo_2 : decode cX7_undo 2 = .ok (.putfield 71, 3) := by decide +kernel
theorem dX7_undo_5 : decode cX7_undo 5 = .ok (.aload_n 0, 1) := by decide +kernel
theorem dX7_undo_6 : decode cX7_undo 6 = .ok (.getfield 135, 3) := by decide +kernel
theorem dX7_undo_9 : decode cX7_undo 9 = .ok (.ifCond .ne 6, 3) := by decide +kernel
theorem dX7_undo_12 : decode cX7_undo 12 = .ok (.bipush (-3), 2) := by decide +kernel
theorem dX7_undo_14 : decode cX7_undo 14 = .ok (.ireturn, 1) := by decide +kernel
theorem dX7_undo_15 : decode cX7_undo 15 = .ok (.aload_n 0, 1) := by decide +kernel
theorem dX7_undo_16 : decode cX7_undo 16 = .ok (.dup, 1) := by decide +kernel
theorem dX7_undo_17 : decode cX7_undo 17 = .ok (.getfield 135, 3) := by decide +kernel
theorem dX7_undo_20 : decode cX7_undo 20 = .ok (.iconst 1, 1) := by decide +kernel
theorem dX7_undo_21 : decode cX7_undo 21 = .ok (.isub, 1) := by decide +kernel
theorem dX7_undo_22 : decode cX7_undo 22 = .ok (.putfield 135, 3) := by decide +kernel
theorem dX7_undo_25 : decode cX7_undo 25 = .ok (.aload_n 0, 1) := by decide +kernel
theorem dX7_undo_26 : decode cX7_undo 26 = .ok (.aload_n 0, 1) := by decide +kernel
theorem dX7_undo_27 : decode cX7_undo 27 = .ok (.getfield 40, 3) := by decide +kernel
theorem dX7_undo_30 : decode cX7_undo 30 = .ok (.bipush 42, 2) := by decide +kernel
theorem dX7_undo_32 : decode cX7_undo 32 = .ok (.aload_n 0, 1) := by decide +kernel
theorem dX7_undo_33 : decode cX7_undo 33 = .ok (.getfield 135, 3) := by decide +kernel
theorem dX7_undo_36 : decode cX7_undo 36 = .ok (.imul, 1) := by decide +kernel
theorem dX7_undo_37 : decode cX7_undo 37 = .ok (.invokevirtual 226, 3) := by decide +kernel
theorem dX7_undo_40 : decode cX7_undo 40 = .ok (.aload_n 0, 1) := by decide +kernel
theorem dX7_undo_41 : decode cX7_undo 41 = .ok (.getfield 135, 3) := by decide +kernel
theorem dX7_undo_44 : decode cX7_undo 44 = .ok (.ireturn, 1) := by decide +kernel
theorem dX7_allBy_0 : decode cX7_allBy 0 = .ok (.iconst 0, 1) := by decide +kernel
theorem dX7_allBy_1 : decode cX7_allBy 1 = .ok (.istore_n 2, 1) := by decide +kernel
theorem dX7_allBy_2 : decode cX7_allBy 2 = .ok (.iload_n 2, 1) := by decide +kernel
theorem dX7_allBy_3 : decode cX7_allBy 3 = .ok (.aload_n 0, 1) := by decide +kernel
theorem dX7_allBy_4 : decode cX7_allBy 4 = .ok (.getfield 75, 3) := by decide +kernel
theorem dX7_allBy_7 : decode cX7_allBy 7 = .ok (.if_icmp .ge 16, 3) := by decide +kernel
theorem dX7_allBy_10 : decode cX7_allBy 10 = .ok (.aload_n 0, 1) := by decide +kernel
theorem dX7_allBy_11 : decode cX7_allBy 11 = .ok (.getfield 56, 3) := by decide +kernel
theorem dX7_allBy_14 : decode cX7_allBy 14 = .ok (.iload_n 2, 1) := by decide +kernel
theorem dX7_allBy_15 : decode cX7_allBy 15 = .ok (.iload_n 1, 1) := by decide +kernel
theorem dX7_allBy_16 : decode cX7_allBy 16 = .ok (.iastore, 1) := by decide +kernel
theorem dX7_allBy_17 : decode cX7_allBy 17 = .ok (.iinc 2 1, 3) := by decide +kernel
theorem dX7_allBy_20 : decode cX7_allBy 20 = .ok (.goto (-18), 3) := by decide +kernel
theorem dX7_allBy_23 : decode cX7_allBy 23 = .ok (.return_, 1) := by decide +kernel
set_option maxRecDepth 20000 in
theorem ggX7_goRest_X7_go : GoodIn wsX7_goRest wsX7_go := goodIn_r _ [5, 6, 7, 8, 9, 10, 11, 12, 4, 13, 14, 15, 16, 17, 18, 19, 20, 21, 22, 23, 24, 25, 26, 27, 28, 29, 30, 31, 32, 33, 34, 35, 36, 37, 38, 39, 40, 41, 42, 43, 44, 45, 46, 47, 48, 49, 50, 51, 52, 53, 54, 55, 56, 57, 58, 59, 60, 61, 62, 63, 64, 65, 66, 67, 68, 69, 70, 71, 72, 73, 74, 75, 76, 77, 78, 79, 80, 81, 82, 83, 84, 85, 86, 87, 88, 89, 90, 91, 92, 93, 94, 95, 96, 97, 98, 99, 100, 101, 102] (by decide +kernel) (by decide +kernel)
set_option maxRecDepth 20000 in
theorem gX7_goRest_X7_go : GoodIn wsX7_goRest (wsV RX7 213 RX7 yX7_go wsX7_go) := goodIn_app (goodIn_of _ (by decide +kernel)) ggX7_goRest_X7_go
theorem dX7_goRest_0 : decode cX7_goRest 0 = .ok (.iconst 0, 1) := by decide +kernel
theorem dX7_goRest_1 : decode cX7_goRest 1 = .ok (.istore_n 1, 1) := by decide +kernel
theorem dX7_goRest_2 : decode cX7_goRest 2 = .ok (.iload_n 1, 1) := by decide +kernel
theorem dX7_goRest_3 : decode cX7_goRest 3 = .ok (.bipush 40, 2) := by decide +kernel
theorem dX7_goRest_5 : decode cX7_goRest 5 = .ok (.if_icmp .gt 18, 3) := by decide +kernel
theorem dX7_goRest_8 : decode cX7_goRest 8 = .ok (.aload_n 0, 1) := by decide +kernel
theorem dX7_goRest_9 : decode cX7_goRest 9 = .ok (.invokevirtual 213, 3) := by decide +kernel
theorem dX7_goRest_12 : decode cX7_goRest 12 = .ok (.ifCond .ne 5, 3) := by decide +kernel
theorem dX7_goRest_15 : decode cX7_goRest 15 = .ok (.iload_n 1, 1) := by decide +kernel
theorem dX7_goRest_16 : decode cX7_goRest 16 = .ok (.ireturn, 1) := by decide +kernel
theorem dX7_goRest_17 : decode cX7_goRest 17 = .ok (.iinc 1 1, 3) := by decide +kernel
theorem dX7_goRest_20 : decode cX7_goRest 20 = .ok (.goto (-18), 3) := by decide +kernel
theorem dX7_goRest_23 : decode cX7_goRest 23 = .ok (.bipush (-9), 2) := by decide +kernel
theorem dX7_goRest_25 : decode cX7_goRest 25 = .ok (.ireturn, 1) := by decide +kernel
set_option maxRecDepth 20000 in
theorem ggX7_rest_X7_in : GoodIn wsX7_rest wsX7_in := goodIn_r _ [6] (by decide +kernel) (by decide +kernel)
set_option maxRecDepth 20000 in
theorem gX7_rest_X7_in : GoodIn wsX7_rest (va_wsS RX7 78 yX7_in wsX7_in) := goodIn_app (goodIn_of _ (by decide +kernel)) ggX7_rest_X7_in
set_option maxRecDepth 20000 in
theorem ggX7_rest_X7_begin : GoodIn wsX7_rest wsX7_begin := goodIn_r _ [10, 11, 12, 13, 14, 15, 16, 17, 18, 19, 20, 21, 85, 86, 87, 88, 89, 90, 91, 92, 93, 94, 95, 96, 97, 98, 99, 100, 101, 102, 103, 104, 105, 106, 107, 108, 109, 110, 111, 112, 113, 114, 115, 116, 117, 118, 119, 120, 121, 122, 123, 124] (by decide +kernel) (by decide +kernel)
set_option maxRecDepth 20000 in
theorem gX7_rest_X7_begin : GoodIn wsX7_rest (wsV RX7 195 RX7 yX7_begin wsX7_begin) := goodIn_app (goodIn_of _ (by decide +kernel)) ggX7_rest_X7_begin
set_option maxRecDepth 20000 in
theorem ggX7_rest_X7_allBy : GoodIn wsX7_rest wsX7_allBy := goodIn_r _ [25, 11, 12, 85, 86, 87, 88, 89, 90, 91, 92, 93, 94, 95, 96, 97, 98, 99, 100, 101, 102, 103, 104, 105, 106, 107, 108, 109, 110, 111, 112, 113, 114, 115, 116, 117, 118, 119, 120, 121, 122, 123, 124] (by decide +kernel) (by decide +kernel)
set_option maxRecDepth 20000 in
theorem gX7_rest_X7_allBy : GoodIn wsX7_rest (wsV RX7 231 RX7 yX7_allBy wsX7_allBy) := goodIn_app (goodIn_of _ (by decide +kernel)) ggX7_rest_X7_allBy
set_option maxRecDepth 20000 in
theorem ggX7_rest_X7_goRest : GoodIn wsX7_rest wsX7_goRest := goodIn_r _ [29, 30, 31, 32, 5, 33, 16, 34, 12, 15, 35, 36, 37, 38, 21, 39, 40, 41, 42, 18, 43, 44, 45, 46, 47, 48, 49, 50, 51, 19, 52, 53, 54, 55, 56, 57, 58, 59, 60, 61, 62, 63, 64, 65, 66, 67, 68, 69, 70, 71, 72, 73, 74, 75, 76, 77, 78, 79, 80, 81, 82, 83, 84, 85, 86, 87, 88, 89, 90, 91, 92, 93, 94, 95, 96, 97, 98, 99, 100, 101, 102, 103, 104, 105, 106, 107, 108, 109, 110, 111, 112, 113, 114, 115, 116, 117, 118, 119, 120, 121, 122, 123, 124] (by decide +kernel) (by decide +kernel)
set_option maxRecDepth 20000 in
theorem gX7_rest_X7_goRest : GoodIn wsX7_rest (wsV RX7 234 RX7 yX7_goRest wsX7_goRest) := goodIn_app (goodIn_of _ (by decide +kernel)) ggX7_rest_X7_goRest
set_option maxRecDepth 20000 in
theorem ggX7_rest_X7_loudAll : GoodIn wsX7_rest wsX7_loudAll := goodIn_r _ [46, 16, 47, 48, 49, 5, 50, 51, 19, 12, 52, 53, 54, 85, 86, 87, 88, 89, 90, 91, 92, 93, 94, 95, 96, 97, 98, 99, 100, 101, 102, 103, 104, 105, 106, 107, 108, 109, 110, 111, 112, 113, 114, 115, 116, 117, 118, 119, 120, 121, 122, 123, 124] (by decide +kernel) (by decide +kernel)
set_option maxRecDepth 20000 in
theorem gX7_rest_X7_loudAll : GoodIn wsX7_rest (wsV RX7 161 RX7 yX7_loudAll wsX7_loudAll) := goodIn_app (goodIn_of _ (by decide +kernel)) ggX7_rest_X7_loudAll
theorem dX7_rest_0 : decode cX7_rest 0 = .ok (.aload_n 0, 1) := by decide +kernel
theorem dX7_rest_1 : decode cX7_rest 1 = .ok (.iconst 0, 1) := by decide +kernel
theorem dX7_rest_2 : decode cX7_rest 2 = .ok (.putfield 71, 3) := by decide +kernel
theorem dX7_rest_5 : decode cX7_rest 5 = .ok (.iload_n 1, 1) := by decide +kernel
theorem dX7_rest_6 : decode cX7_rest 6 = .ok (.i2l, 1) := by decide +kernel
theorem dX7_rest_7 : decode cX7_rest 7 = .ok (.lconst 0, 1) := by decide +kernel
theorem dX7_rest_8 : decode cX7_rest 8 = .ok (.ldc2_w 229, 3) := by decide +kernel
theorem dX7_rest_11 : decode cX7_rest 11 = .ok (.invokestatic 78, 3) := by decide +kernel
theorem dX7_rest_14 : decode cX7_rest 14 = .ok (.ifCond .ne 6, 3) := by decide +kernel
theorem dX7_rest_17 : decode cX7_rest 17 = .ok (.bipush (-2), 2) := by decide +kernel
theorem dX7_rest_19 : decode cX7_rest 19 = .ok (.ireturn, 1) := by decide +kernel
theorem dX7_rest_20 : decode cX7_rest 20 = .ok (.aload_n 0, 1) := by decide +kernel
theorem dX7_rest_21 : decode cX7_rest 21 = .ok (.invokevirtual 195, 3) := by decide +kernel
theorem dX7_rest_24 : decode cX7_rest 24 = .ok (.iload_n 1, 1) := by decide +kernel
theorem dX7_rest_25 : decode cX7_rest 25 = .ok (.ifCond .le 18, 3) := by decide +kernel
theorem dX7_rest_28 : decode cX7_rest 28 = .ok (.aload_n 0, 1) := by decide +kernel
theorem dX7_rest_29 : decode cX7_rest 29 = .ok (.iload_n 1, 1) := by decide +kernel
theorem dX7_rest_30 : decode cX7_rest 30 = .ok (.iconst 1, 1) := by decide +kernel
theorem dX7_rest_31 : decode cX7_rest 31 = .ok (.if_icmp .ne 7, 3) := by decide +kernel
theorem dX7_rest_34 : decode cX7_rest 34 = .ok (.iconst 1, 1) := by decide +kernel
theorem dX7_rest_35 : decode cX7_rest 35 = .ok (.goto 5, 3) := by decide +kernel
theorem dX7_rest_38 : decode cX7_rest 38 = .ok (.bipush 9, 2) := by decide +kernel
theorem dX7_rest_40 : decode cX7_rest 40 = .ok (.invokevirtual 231, 3) := by decide +kernel
theorem dX7_rest_43 : decode cX7_rest 43 = .ok (.aload_n 0, 1) := by decide +kernel
theorem dX7_rest_44 : decode cX7_rest 44 = .ok (.invokevirtual 234, 3) := by decide +kernel
theorem dX7_rest_47 : decode cX7_rest 47 = .ok (.istore_n 3, 1) := by decide +kernel

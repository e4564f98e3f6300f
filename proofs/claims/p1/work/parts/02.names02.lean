theorem dX10_hard_4 : decode cX10_hard 4 = .ok (.iload 4, 2) := by decide +kernel
theorem dX10_hard_6 : decode cX10_hard 6 = .ok (.iconst 0, 1) := by decide +kernel
theorem dX10_hard_7 : decode cX10_hard 7 = .ok (.invokevirtual 218, 3) := by decide +kernel
theorem dX10_hard_10 : decode cX10_hard 10 = .ok (.ireturn, 1) := by decide +kernel
set_option maxRecDepth 20000 in
theorem ggX10_quick_X10_leastMeasure : GoodIn wsX10_quick wsX10_leastMeasure := goodIn_r _ [5, 6, 7, 8, 9, 10, 11, 12, 4, 13, 14, 15, 16, 17, 18, 19, 20, 21, 22, 23, 24, 25, 26, 27, 28, 29, 30, 31, 32, 33, 34, 35, 36, 37, 38, 39, 40, 41, 42, 43, 44, 45, 46, 47, 48, 49, 50, 51, 52, 53, 54, 55, 56, 57, 58, 59, 60, 61, 62, 63, 64, 65, 66, 67, 68, 69, 70, 71, 72, 73, 74, 75, 76, 77, 78, 79, 80, 81, 82, 83, 84, 85, 86, 87, 88, 89, 90, 91, 92, 93, 94, 95, 96, 97, 98, 99, 100, 101, 102, 103, 104, 105, 106, 107, 108, 109, 110, 111, 112, 113, 114, 115, 116, 117, 118, 119, 120, 121, 122, 123, 124, 125, 126, 127, 128, 129, 130, 131, 132, 133, 134] (by decide +kernel) (by decide +kernel)
set_option maxRecDepth 20000 in
theorem gX10_quick_X10_leastMeasure : GoodIn wsX10_quick (wsV RX10 218 RX10 yX10_leastMeasure wsX10_leastMeasure) := goodIn_app (goodIn_of _ (by decide +kernel)) ggX10_quick_X10_leastMeasure
theorem dX10_quick_0 : decode cX10_quick 0 = .ok (.aload_n 0, 1) := by decide +kernel
theorem dX10_quick_1 : decode cX10_quick 1 = .ok (.iload_n 1, 1) := by decide +kernel
theorem dX10_quick_2 : decode cX10_quick 2 = .ok (.iload_n 2, 1) := by decide +kernel
theorem dX10_quick_3 : decode cX10_quick 3 = .ok (.iload_n 3, 1) := by decide +kernel
theorem dX10_quick_4 : decode cX10_quick 4 = .ok (.iload 4, 2) := by decide +kernel
theorem dX10_quick_6 : decode cX10_quick 6 = .ok (.iconst 1, 1) := by decide +kernel
theorem dX10_quick_7 : decode cX10_quick 7 = .ok (.invokevirtual 218, 3) := by decide +kernel
theorem dX10_quick_10 : decode cX10_quick 10 = .ok (.ireturn, 1) := by decide +kernel
set_option maxRecDepth 20000 in
theorem ggX10_jolt_X10_leastMeasure : GoodIn wsX10_jolt wsX10_leastMeasure := goodIn_r _ [5, 6, 7, 8, 9, 10, 11, 12, 4, 13, 14, 15, 16, 17, 18, 19, 20, 21, 22, 23, 24, 25, 26, 27, 28, 29, 30, 31, 32, 33, 34, 35, 36, 37, 38, 39, 40, 41, 42, 43, 44, 45, 46, 47, 48, 49, 50, 51, 52, 53, 54, 55, 56, 57, 58, 59, 60, 61, 62, 63, 64, 65, 66, 67, 68, 69, 70, 71, 72, 73, 74, 75, 76, 77, 78, 79, 80, 81, 82, 83, 84, 85, 86, 87, 88, 89, 90, 91, 92, 93, 94, 95, 96, 97, 98, 99, 100, 101, 102, 103, 104, 105, 106, 107, 108, 109, 110, 111, 112, 113, 114, 115, 116, 117, 118, 119, 120, 121, 122, 123, 124, 125, 126, 127, 128, 129, 130, 131, 132, 133, 134] (by decide +kernel) (by decide +kernel)
set_option maxRecDepth 20000 in
theorem gX10_jolt_X10_leastMeasure : GoodIn wsX10_jolt (wsV RX10 218 RX10 yX10_leastMeasure wsX10_leastMeasure) := goodIn_app (goodIn_of _ (by decide +kernel)) ggX10_jolt_X10_leastMeasure
theorem dX10_jolt_0 : decode cX10_jolt 0 = .ok (.aload_n 0, 1) := by decide +kernel
theorem dX10_jolt_1 : decode cX10_jolt 1 = .ok (.iload_n 1, 1) := by decide +kernel
theorem dX10_jolt_2 : decode cX10_jolt 2 = .ok (.iload_n 2, 1) := by decide +kernel
theorem dX10_jolt_3 : decode cX10_jolt 3 = .ok (.iload_n 3, 1) := by decide +kernel
theorem dX10_jolt_4 : decode cX10_jolt 4 = .ok (.iload 4, 2) := by decide +kernel
theorem dX10_jolt_6 : decode cX10_jolt 6 = .ok (.iconst 2, 1) := by decide +kernel
theorem dX10_jolt_7 : decode cX10_jolt 7 = .ok (.invokevirtual 218, 3) := by decide +kernel
theorem dX10_jolt_10 : decode cX10_jolt 10 = .ok (.ireturn, 1) := by decide +kernel
set_option maxRecDepth 20000 in
theorem ggX10_leastMeasure_X10_hasAim : GoodIn wsX10_leastMeasure wsX10_hasAim := goodIn_r _ [9, 1, 2, 10, 11, 12, 8, 13, 14, 15, 16, 17, 18, 19, 20, 21, 22, 23, 24, 25, 26, 27, 28, 29, 94, 95, 96, 97, 98, 99, 100, 101, 102, 103, 104, 105, 106, 107, 108, 109, 110, 111, 112, 113, 114, 115, 116, 117, 118, 119, 120, 121] (by decide +kernel) (by decide +kernel)
set_option maxRecDepth 20000 in
theorem gX10_leastMeasure_X10_hasAim : GoodIn wsX10_leastMeasure (wsV RX10 155 RX10 yX10_hasAim wsX10_hasAim) := goodIn_app (goodIn_of _ (by decide +kernel)) ggX10_leastMeasure_X10_hasAim
theorem dX10_leastMeasure_0 : decode cX10_leastMeasure 0 = .ok (.aload_n 0, 1) := by decide +kernel
theorem dX10_leastMeasure_1 : decode cX10_leastMeasure 1 = .ok (.iload_n 1, 1) := by decide +kernel
theorem dX10_leastMeasure_2 : decode cX10_leastMeasure 2 = .ok (.iload_n 2, 1) := by decide +kernel
theorem dX10_leastMeasure_3 : decode cX10_leastMeasure 3 = .ok (.iload_n 3, 1) := by decide +kernel
theorem dX10_leastMeasure_4 : decode cX10_leastMeasure 4 = .ok (.iload 4, 2) := by decide +kernel
theorem dX10_leastMeasure_6 : decode cX10_leastMeasure 6 = .ok (.invokevirtual 155, 3) := by decide +kernel
theorem dX10_leastMeasure_9 : decode cX10_leastMeasure 9 = .ok (.ifCond .ne 6, 3) := by decide +kernel
theorem dX10_leastMeasure_12 : decode cX10_leastMeasure 12 = .ok (.bipush (-2), 2) := by decide +kernel
theorem dX10_leastMeasure_14 : decode cX10_leastMeasure 14 = .ok (.ireturn, 1) := by decide +kernel
theorem dX10_leastMeasure_15 : decode cX10_leastMeasure 15 = .ok (.aload_n 0, 1) := by decide +kernel
theorem dX10_leastMeasure_16 : decode cX10_leastMeasure 16 = .ok (.getfield 27, 3) := by decide +kernel
theorem dX10_leastMeasure_19 : decode cX10_leastMeasure 19 = .ok (.getfield 152, 3) := by decide +kernel
theorem dX10_leastMeasure_22 : decode cX10_leastMeasure 22 = .ok (.iload_n 2, 1) := by decide +kernel
theorem dX10_leastMeasure_23 : decode cX10_leastMeasure 23 = .ok (.iconst 1, 1) := by decide +kernel
theorem dX10_leastMeasure_24 : decode cX10_leastMeasure 24 = .ok (.invokevirtual 179, 3) := by decide +kernel
theorem dX10_leastMeasure_27 : decode cX10_leastMeasure 27 = .ok (.istore 6, 2) := by decide +kernel
theorem dX10_leastMeasure_29 : decode cX10_leastMeasure 29 = .ok (.aload_n 0, 1) := by decide +kernel
theorem dX10_leastMeasure_30 : decode cX10_leastMeasure 30 = .ok (.getfield 71, 3) := by decide +kernel
theorem dX10_leastMeasure_33 : decode cX10_leastMeasure 33 = .ok (.aload_n 0, 1) := by decide +kernel
theorem dX10_leastMeasure_34 : decode cX10_leastMeasure 34 = .ok (.getfield 55, 3) := by decide +kernel
theorem dX10_leastMeasure_37 : decode cX10_leastMeasure 37 = .ok (.iload_n 1, 1) := by decide +kernel
theorem dX10_leastMeasure_38 : decode cX10_leastMeasure 38 = .ok (.iload_n 3, 1) := by decide +kernel
theorem dX10_leastMeasure_39 : decode cX10_leastMeasure 39 = .ok (.iload 4, 2) := by decide +kernel
theorem dX10_leastMeasure_41 : decode cX10_leastMeasure 41 = .ok (.iload 5, 2) := by decide +kernel
theorem dX10_leastMeasure_43 : decode cX10_leastMeasure 43 = .ok (.iload 6, 2) := by decide +kernel
theorem dX10_leastMeasure_45 : decode cX10_leastMeasure 45 = .ok (.invokevirtual 222, 3) := by decide +kernel
theorem dX10_leastMeasure_48 : decode cX10_leastMeasure 48 = .ok (.aload_n 0, 1) := by decide +kernel
theorem dX10_leastMeasure_49 : decode cX10_leastMeasure 49 = .ok (.getfield 71, 3) := by decide +kernel
theorem dX10_leastMeasure_52 : decode cX10_leastMeasure 52 = .ok (.aload_n 0, 1) := by decide +kernel
theorem dX10_leastMeasure_53 : decode cX10_leastMeasure 53 = .ok (.getfield 27, 3) := by decide +kernel
theorem dX10_leastMeasure_56 : decode cX10_leastMeasure 56 = .ok (.iload_n 1, 1) := by decide +kernel
theorem dX10_leastMeasure_57 : decode cX10_leastMeasure 57 = .ok (.iload_n 2, 1) := by decide +kernel
theorem dX10_leastMeasure_58 : decode cX10_leastMeasure 58 = .ok (.invokevirtual 226, 3) := by decide +kernel
theorem dX10_leastMeasure_61 : decode cX10_leastMeasure 61 = .ok (.iload 6, 2) := by decide +kernel
theorem dX10_leastMeasure_63 : decode cX10_leastMeasure 63 = .ok (.invokevirtual 229, 3) := by decide +kernel
theorem dX10_leastMeasure_66 : decode cX10_leastMeasure 66 = .ok (.ireturn, 1) := by decide +kernel
set_option maxRecDepth 20000 in
theorem ggX10_stands_X10_hasRun : GoodIn wsX10_stands wsX10_hasRun := goodIn_r _ [9, 3, 10, 11, 12, 13, 14, 15, 16, 17, 18, 19, 8, 20, 4, 21, 22, 23, 24, 78, 79, 80, 81, 82, 83, 84, 85, 86, 87, 88, 89, 90, 91, 92, 93, 94, 95, 96, 97, 98, 99, 100, 101, 102, 103, 104, 105] (by decide +kernel) (by decide +kernel)
set_option maxRecDepth 20000 in
theorem gX10_stands_X10_hasRun : GoodIn wsX10_stands (wsV RX10 148 RX10 yX10_hasRun wsX10_hasRun) := goodIn_app (goodIn_of _ (by decide +kernel)) ggX10_stands_X10_hasRun
theorem dX10_stands_0 : decode cX10_stands 0 = .ok (.aload_n 0, 1) := by decide +kernel
theorem dX10_stands_1 : decode cX10_stands 1 = .ok (.iload_n 1, 1) := by decide +kernel
theorem dX10_stands_2 : decode cX10_stands 2 = .ok (.iload_n 2, 1) := by decide +kernel
theorem dX10_stands_3 : decode cX10_stands 3 = .ok (.iload_n 3, 1) := by decide +kernel
theorem dX10_stands_4 : decode cX10_stands 4 = .ok (.invokevirtual 148, 3) := by decide +kernel
theorem dX10_stands_7 : decode cX10_stands 7 = .ok (.ifCond .eq 13, 3) := by decide +kernel
theorem dX10_stands_10 : decode cX10_stands 10 = .ok (.iload 4, 2) := by decide +kernel
theorem dX10_stands_12 : decode cX10_stands 12 = .ok (.iconst 0, 1) := by decide +kernel
theorem dX10_stands_13 : decode cX10_stands 13 = .ok (.iconst 2, 1) := by decide +kernel
theorem dX10_stands_14 : decode cX10_stands 14 = .ok (.invokestatic 176, 3) := by decide +kernel
theorem dX10_stands_17 : decode cX10_stands 17 = .ok (.ifCond .ne 6, 3) := by decide +kernel
theorem dX10_stands_20 : decode cX10_stands 20 = .ok (.bipush (-2), 2) := by decide +kernel
theorem dX10_stands_22 : decode cX10_stands 22 = .ok (.ireturn, 1) := by decide +kernel
theorem dX10_stands_23 : decode cX10_stands 23 = .ok (.aload_n 0, 1) := by decide +kernel
theorem dX10_stands_24 : decode cX10_stands 24 = .ok (.getfield 71, 3) := by decide +kernel
theorem dX10_stands_27 : decode cX10_stands 27 = .ok (.aload_n 0, 1) := by decide +kernel
theorem dX10_stands_28 : decode cX10_stands 28 = .ok (.getfield 55, 3) := by decide +kernel
theorem dX10_stands_31 : decode cX10_stands 31 = .ok (.iload_n 1, 1) := by decide +kernel
theorem dX10_stands_32 : decode cX10_stands 32 = .ok (.iload_n 2, 1) := by decide +kernel
theorem dX10_stands_33 : decode cX10_stands 33 = .ok (.iload_n 3, 1) := by decide +kernel
theorem dX10_stands_34 : decode cX10_stands 34 = .ok (.iconst 1, 1) := by decide +kernel
theorem dX10_stands_35 : decode cX10_stands 35 = .ok (.aload_n 0, 1) := by decide +kernel
theorem dX10_stands_36 : decode cX10_stands 36 = .ok (.getfield 27, 3) := by decide +kernel
theorem dX10_stands_39 : decode cX10_stands 39 = .ok (.getfield 128, 3) := by decide +kernel
theorem dX10_stands_42 : decode cX10_stands 42 = .ok (.invokevirtual 222, 3) := by decide +kernel
theorem dX10_stands_45 : decode cX10_stands 45 = .ok (.iconst (-1), 1) := by decide +kernel
theorem dX10_stands_46 : decode cX10_stands 46 = .ok (.istore 5, 2) := by decide +kernel
theorem dX10_stands_48 : decode cX10_stands 48 = .ok (.iconst (-1), 1) := by decide +kernel
theorem dX10_stands_49 : decode cX10_stands 49 = .ok (.istore 6, 2) := by decide +kernel
theorem dX10_stands_51 : decode cX10_stands 51 = .ok (.iconst 0, 1) := by decide +kernel
theorem dX10_stands_52 : decode cX10_stands 52 = .ok (.istore 7, 2) := by decide +kernel
theorem dX10_stands_54 : decode cX10_stands 54 = .ok (.iload_n 2, 1) := by decide +kernel
theorem dX10_stands_55 : decode cX10_stands 55 = .ok (.istore 8, 2) := by decide +kernel
theorem dX10_stands_57 : decode cX10_stands 57 = .ok (.iload 8, 2) := by decide +kernel
theorem dX10_stands_59 : decode cX10_stands 59 = .ok (.aload_n 0, 1) := by decide +kernel
theorem dX10_stands_60 : decode cX10_stands 60 = .ok (.getfield 27, 3) := by decide +kernel
theorem dX10_stands_63 : decode cX10_stands 63 = .ok (.getfield 128, 3) := by decide +kernel
theorem dX10_stands_66 : decode cX10_stands 66 = .ok (.if_icmp .gt 46, 3) := by decide +kernel
theorem dX10_stands_69 : decode cX10_stands 69 = .ok (.aload_n 0, 1) := by decide +kernel
theorem dX10_stands_70 : decode cX10_stands 70 = .ok (.getfield 71, 3) := by decide +kernel
theorem dX10_stands_73 : decode cX10_stands 73 = .ok (.iload 8, 2) := by decide +kernel
theorem dX10_stands_75 : decode cX10_stands 75 = .ok (.iload 8, 2) := by decide +kernel
theorem dX10_stands_77 : decode cX10_stands 77 = .ok (.invokevirtual 229, 3) := by decide +kernel
theorem dX10_stands_80 : decode cX10_stands 80 = .ok (.iconst (-1), 1) := by decide +kernel
theorem dX10_stands_81 : decode cX10_stands 81 = .ok (.if_icmp .eq 25, 3) := by decide +kernel
theorem dX10_stands_84 : decode cX10_stands 84 = .ok (.iload 5, 2) := by decide +kernel
theorem dX10_stands_86 : decode cX10_stands 86 = .ok (.iconst (-1), 1) := by decide +kernel
theorem dX10_stands_87 : decode cX10_stands 87 = .ok (.if_icmp .ne 8, 3) := by decide +kernel
theorem dX10_stands_90 : decode cX10_stands 90 = .ok (.iload 8, 2) := by decide +kernel
theorem dX10_stands_92 : decode cX10_stands 92 = .ok (.goto 5, 3) := by decide +kernel
theorem dX10_stands_95 : decode cX10_stands 95 = .ok (.iload 5, 2) := by decide +kernel
theorem dX10_stands_97 : decode cX10_stands 97 = .ok (.istore 5, 2) := by decide +kernel
theorem dX10_stands_99 : decode cX10_stands 99 = .ok (.iload 8, 2) := by decide +kernel
theorem dX10_stands_101 : decode cX10_stands 101 = .ok (.istore 6, 2) := by decide +kernel
theorem dX10_stands_103 : decode cX10_stands 103 = .ok (.iinc 7 1, 3) := by decide +kernel
theorem dX10_stands_106 : decode cX10_stands 106 = .ok (.iinc 8 1, 3) := by decide +kernel
theorem dX10_stands_109 : decode cX10_stands 109 = .ok (.goto (-52), 3) := by decide +kernel
theorem dX10_stands_112 : decode cX10_stands 112 = .ok (.iload 5, 2) := by decide +kernel
theorem dX10_stands_114 : decode cX10_stands 114 = .ok (.iload 6, 2) := by decide +kernel
theorem dX10_stands_116 : decode cX10_stands 116 = .ok (.iload 7, 2) := by decide +kernel
theorem dX10_stands_118 : decode cX10_stands 118 = .ok (.iload 4, 2) := by decide +kernel
theorem dX10_stands_120 : decode cX10_stands 120 = .ok (.invokestatic 232, 3) := by decide +kernel
theorem dX10_stands_123 : decode cX10_stands 123 = .ok (.ireturn, 1) := by decide +kernel
set_option maxRecDepth 20000 in
theorem ggX10_posts_X10_takesAim : GoodIn wsX10_posts wsX10_takesAim := goodIn_r _ [8, 3, 9, 10, 11, 7, 12, 1, 13, 14, 15, 16, 17, 18, 19, 20, 21, 22, 23, 24, 25, 26, 27, 28, 2, 29, 30, 31, 32, 33, 34, 35, 36, 37, 38, 39, 40, 41, 42, 43, 44, 45, 46, 47, 48, 49, 50, 51, 52, 53, 54, 55, 56, 57, 58, 59, 60, 61, 62, 63, 64, 65, 66, 67, 68, 69, 70, 71, 72, 73, 74, 75, 76, 77, 78, 79, 80, 81, 82, 83, 84, 85, 86, 87, 96, 97, 98, 99, 100, 101, 102, 103, 104, 105, 106, 107, 108, 109, 110, 111, 112, 113, 114, 115, 116, 117, 118, 119, 120, 121, 122, 123, 124, 125, 126, 127, 128, 129, 130, 131, 132, 133, 134, 135, 136] (by decide +kernel) (by decide +kernel)
set_option maxRecDepth 20000 in
theorem gX10_posts_X10_takesAim : GoodIn wsX10_posts (wsV RX10 200 RX10 yX10_takesAim wsX10_takesAim) := goodIn_app (goodIn_of _ (by decide +kernel)) ggX10_posts_X10_takesAim
theorem dX10_posts_0 : decode cX10_posts 0 = .ok (.aload_n 0, 1) := by decide +kernel
theorem dX10_posts_1 : decode cX10_posts 1 = .ok (.iload_n 1, 1) := by decide +kernel
theorem dX10_posts_2 : decode cX10_posts 2 = .ok (.iload_n 2, 1) := by decide +kernel
theorem dX10_posts_3 : decode cX10_posts 3 = .ok (.iconst 0, 1) := by decide +kernel
theorem dX10_posts_4 : decode cX10_posts 4 = .ok (.iload_n 3, 1) := by decide +kernel
theorem dX10_posts_5 : decode cX10_posts 5 = .ok (.invokevirtual 200, 3) := by decide +kernel
theorem dX10_posts_8 : decode cX10_posts 8 = .ok (.ifCond .eq 13, 3) := by decide +kernel
theorem dX10_posts_11 : decode cX10_posts 11 = .ok (.iload 4, 2) := by decide +kernel
theorem dX10_posts_13 : decode cX10_posts 13 = .ok (.iconst 0, 1) := by decide +kernel
theorem dX10_posts_14 : decode cX10_posts 14 = .ok (.iconst 2, 1) := by decide +kernel
theorem dX10_posts_15 : decode cX10_posts 15 = .ok (.invokestatic 176, 3) := by decide +kernel
theorem dX10_posts_18 : decode cX10_posts 18 = .ok (.ifCond .ne 6, 3) := by decide +kernel
theorem dX10_posts_21 : decode cX10_posts 21 = .ok (.bipush (-2), 2) := by decide +kernel
theorem dX10_posts_23 : decode cX10_posts 23 = .ok (.ireturn, 1) := by decide +kernel
theorem dX10_posts_24 : decode cX10_posts 24 = .ok (.iconst (-1), 1) := by decide +kernel
theorem dX10_posts_25 : decode cX10_posts 25 = .ok (.istore 5, 2) := by decide +kernel
theorem dX10_posts_27 : decode cX10_posts 27 = .ok (.iconst (-1), 1) := by decide +kernel
theorem dX10_posts_28 : decode cX10_posts 28 = .ok (.istore 6, 2) := by decide +kernel
theorem dX10_posts_30 : decode cX10_posts 30 = .ok (.iconst 0, 1) := by decide +kernel
theorem dX10_posts_31 : decode cX10_posts 31 = .ok (.istore 7, 2) := by decide +kernel
theorem dX10_posts_33 : decode cX10_posts 33 = .ok (.iconst 0, 1) := by decide +kernel
theorem dX10_posts_34 : decode cX10_posts 34 = .ok (.istore 8, 2) := by decide +kernel
theorem dX10_posts_36 : decode cX10_posts 36 = .ok (.iload 8, 2) := by decide +kernel
theorem dX10_posts_38 : decode cX10_posts 38 = .ok (.aload_n 0, 1) := by decide +kernel
theorem dX10_posts_39 : decode cX10_posts 39 = .ok (.getfield 27, 3) := by decide +kernel
theorem dX10_posts_42 : decode cX10_posts 42 = .ok (.getfield 128, 3) := by decide +kernel
theorem dX10_posts_45 : decode cX10_posts 45 = .ok (.if_icmp .gt 47, 3) := by decide +kernel
theorem dX10_posts_48 : decode cX10_posts 48 = .ok (.aload_n 0, 1) := by decide +kernel
theorem dX10_posts_49 : decode cX10_posts 49 = .ok (.getfield 64, 3) := by decide +kernel
theorem dX10_posts_52 : decode cX10_posts 52 = .ok (.iload_n 1, 1) := by decide +kernel
theorem dX10_posts_53 : decode cX10_posts 53 = .ok (.iload_n 2, 1) := by decide +kernel
theorem dX10_posts_54 : decode cX10_posts 54 = .ok (.iload 8, 2) := by decide +kernel
theorem dX10_posts_56 : decode cX10_posts 56 = .ok (.iload_n 3, 1) := by decide +kernel
theorem dX10_posts_57 : decode cX10_posts 57 = .ok (.invokevirtual 203, 3) := by decide +kernel
theorem dX10_posts_60 : decode cX10_posts 60 = .ok (.iconst (-1), 1) := by decide +kernel
theorem dX10_posts_61 : decode cX10_posts 61 = .ok (.if_icmp .eq 25, 3) := by decide +kernel
theorem dX10_posts_64 : decode cX10_posts 64 = .ok (.iload 5, 2) := by decide +kernel
theorem dX10_posts_66 : decode cX10_posts 66 = .ok (.iconst (-1), 1) := by decide +kernel
theorem dX10_posts_67 : decode cX10_posts 67 = .ok (.if_icmp .ne 8, 3) := by decide +kernel
theorem dX10_posts_70 : decode cX10_posts 70 = .ok (.iload 8, 2) := by decide +kernel
theorem dX10_posts_72 : decode cX10_posts 72 = .ok (.goto 5, 3) := by decide +kernel
theorem dX10_posts_75 : decode cX10_posts 75 = .ok (.iload 5, 2) := by decide +kernel
theorem dX10_posts_77 : decode cX10_posts 77 = .ok (.istore 5, 2) := by decide +kernel
theorem dX10_posts_79 : decode cX10_posts 79 = .ok (.iload 8, 2) := by decide +kernel
theorem dX10_posts_81 : decode cX10_posts 81 = .ok (.istore 6, 2) := by decide +kernel
theorem dX10_posts_83 : decode cX10_posts 83 = .ok (.iinc 7 1, 3) := by decide +kernel
theorem dX10_posts_86 : decode cX10_posts 86 = .ok (.iinc 8 1, 3) := by decide +kernel
theorem dX10_posts_89 : decode cX10_posts 89 = .ok (.goto (-53), 3) := by decide +kernel
theorem dX10_posts_92 : decode cX10_posts 92 = .ok (.iload 5, 2) := by decide +kernel
theorem dX10_posts_94 : decode cX10_posts 94 = .ok (.iload 6, 2) := by decide +kernel
theorem dX10_posts_96 : decode cX10_posts 96 = .ok (.iload 7, 2) := by decide +kernel
theorem dX10_posts_98 : decode cX10_posts 98 = .ok (.iload 4, 2) := by decide +kernel
theorem dX10_posts_100 : decode cX10_posts 100 = .ok (.invokestatic 232, 3) := by decide +kernel
theorem dX10_posts_103 : decode cX10_posts 103 = .ok (.ireturn, 1) := by decide +kernel
set_option maxRecDepth 20000 in
theorem ggX10_speeds_X10_takesAim : GoodIn wsX10_speeds wsX10_takesAim := goodIn_r _ [6, 1, 7, 8, 9, 5, 10, 11, 12, 13, 14, 15, 16, 17, 18, 19, 20, 21, 22, 23, 24, 25, 26, 27, 28, 29, 30, 31, 32, 33, 34, 35, 36, 37, 38, 39, 40, 41, 42, 43, 44, 45, 46, 47, 48, 49, 50, 51, 52, 53, 54, 55, 56, 57, 58, 59, 60, 61, 62, 63, 64, 65, 66, 67, 68, 69, 70, 71, 72, 73, 74, 75, 76, 77, 78, 79, 80, 81, 82, 83, 84, 85, 86, 87, 92, 93, 94, 95, 96, 97, 98, 99, 100, 101, 102, 103, 104, 105, 106, 107, 108, 109, 110, 111, 112, 113, 114, 115, 116, 117, 118, 119, 120, 121, 122, 123, 124, 125, 126, 127, 128, 129, 130, 131, 132] (by decide +kernel) (by decide +kernel)
set_option maxRecDepth 20000 in
theorem gX10_speeds_X10_takesAim : GoodIn wsX10_speeds (wsV RX10 200 RX10 yX10_takesAim wsX10_takesAim) := goodIn_app (goodIn_of _ (by decide +kernel)) ggX10_speeds_X10_takesAim
theorem dX10_speeds_0 : decode cX10_speeds 0 = .ok (.aload_n 0, 1) := by decide +kernel
theorem dX10_speeds_1 : decode cX10_speeds 1 = .ok (.iload_n 1, 1) := by decide +kernel
theorem dX10_speeds_2 : decode cX10_speeds 2 = .ok (.iload_n 2, 1) := by decide +kernel
theorem dX10_speeds_3 : decode cX10_speeds 3 = .ok (.iload_n 3, 1) := by decide +kernel
theorem dX10_speeds_4 : decode cX10_speeds 4 = .ok (.iconst 1, 1) := by decide +kernel
theorem dX10_speeds_5 : decode cX10_speeds 5 = .ok (.invokevirtual 200, 3) := by decide +kernel
theorem dX10_speeds_8 : decode cX10_speeds 8 = .ok (.ifCond .ne 6, 3) := by decide +kernel
theorem dX10_speeds_11 : decode cX10_speeds 11 = .ok (.bipush (-2), 2) := by decide +kernel
theorem dX10_speeds_13 : decode cX10_speeds 13 = .ok (.ireturn, 1) := by decide +kernel
theorem dX10_speeds_14 : decode cX10_speeds 14 = .ok (.iconst 0, 1) := by decide +kernel
theorem dX10_speeds_15 : decode cX10_speeds 15 = .ok (.istore 4, 2) := by decide +kernel
theorem dX10_speeds_17 : decode cX10_speeds 17 = .ok (.iconst 1, 1) := by decide +kernel
theorem dX10_speeds_18 : decode cX10_speeds 18 = .ok (.istore 5, 2) := by decide +kernel
theorem dX10_speeds_20 : decode cX10_speeds 20 = .ok (.iload 5, 2) := by decide +kernel
theorem dX10_speeds_22 : decode cX10_speeds 22 = .ok (.bipush 15, 2) := by decide +kernel
theorem dX10_speeds_24 : decode cX10_speeds 24 = .ok (.if_icmp .gt 34, 3) := by decide +kernel
theorem dX10_speeds_27 : decode cX10_speeds 27 = .ok (.aload_n 0, 1) := by decide +kernel
theorem dX10_speeds_28 : decode cX10_speeds 28 = .ok (.getfield 64, 3) := by decide +kernel
theorem dX10_speeds_31 : decode cX10_speeds 31 = .ok (.iload_n 1, 1) := by decide +kernel
theorem dX10_speeds_32 : decode cX10_speeds 32 = .ok (.iload_n 2, 1) := by decide +kernel
theorem dX10_speeds_33 : decode cX10_speeds 33 = .ok (.iload_n 3, 1) := by decide +kernel
theorem dX10_speeds_34 : decode cX10_speeds 34 = .ok (.iload 5, 2) := by decide +kernel
theorem dX10_speeds_36 : decode cX10_speeds 36 = .ok (.invokevirtual 203, 3) := by decide +kernel
theorem dX10_speeds_39 : decode cX10_speeds 39 = .ok (.iconst (-1), 1) := by decide +kernel
theorem dX10_speeds_40 : decode cX10_speeds 40 = .ok (.if_icmp .eq 12, 3) := by decide +kernel
theorem dX10_speeds_43 : decode cX10_speeds 43 = .ok (.iload 4, 2) := by decide +kernel
theorem dX10_speeds_45 : decode cX10_speeds 45 = .ok (.iconst 1, 1) := by decide +kernel
theorem dX10_speeds_46 : decode cX10_speeds 46 = .ok (.iload 5, 2) := by decide +kernel
theorem dX10_speeds_48 : decode cX10_speeds 48 = .ok (.ishl, 1) := by decide +kernel
theorem dX10_speeds_49 : decode cX10_speeds 49 = .ok (.ior, 1) := by decide +kernel
theorem dX10_speeds_50 : decode cX10_speeds 50 = .ok (.istore 4, 2) := by decide +kernel
theorem dX10_speeds_52 : decode cX10_speeds 52 = .ok (.iinc 5 1, 3) := by decide +kernel
theorem dX10_speeds_55 : decode cX10_speeds 55 = .ok (.goto (-35), 3) := by decide +kernel
theorem dX10_speeds_58 : decode cX10_speeds 58 = .ok (.iload 4, 2) := by decide +kernel
theorem dX10_speeds_60 : decode cX10_speeds 60 = .ok (.ireturn, 1) := by decide +kernel
set_option maxRecDepth 20000 in
theorem ggX10_wetter_X10_hasAim : GoodIn wsX10_wetter wsX10_hasAim := goodIn_r _ [7, 8, 9, 10, 11, 12, 6, 13, 14, 15, 16, 17, 18, 19, 20, 21, 22, 23, 24, 25, 26, 27, 28, 29, 122, 123, 124, 125, 126, 127, 128, 129, 130, 131, 132, 133, 134, 135, 136, 143, 144, 145, 146, 147, 148, 149, 150, 151, 152, 153, 154, 155] (by decide +kernel) (by decide +kernel)
set_option maxRecDepth 20000 in
theorem gX10_wetter_X10_hasAim : GoodIn wsX10_wetter (wsV RX10 155 RX10 yX10_hasAim wsX10_hasAim) := goodIn_app (goodIn_of _ (by decide +kernel)) ggX10_wetter_X10_hasAim
theorem dX10_wetter_0 : decode cX10_wetter 0 = .ok (.aload_n 0, 1) := by decide +kernel
theorem dX10_wetter_1 : decode cX10_wetter 1 = .ok (.iload_n 1, 1) := by decide +kernel
theorem dX10_wetter_2 : decode cX10_wetter 2 = .ok (.iload_n 2, 1) := by decide +kernel
theorem dX10_wetter_3 : decode cX10_wetter 3 = .ok (.iload_n 3, 1) := by decide +kernel
theorem dX10_wetter_4 : decode cX10_wetter 4 = .ok (.iload 4, 2) := by decide +kernel
theorem dX10_wetter_6 : decode cX10_wetter 6 = .ok (.invokevirtual 155, 3) := by decide +kernel
theorem dX10_wetter_9 : decode cX10_wetter 9 = .ok (.ifCond .ne 6, 3) := by decide +kernel
theorem dX10_wetter_12 : decode cX10_wetter 12 = .ok (.bipush (-2), 2) := by decide +kernel
theorem dX10_wetter_14 : decode cX10_wetter 14 = .ok (.ireturn, 1) := by decide +kernel
theorem dX10_wetter_15 : decode cX10_wetter 15 = .ok (.aload_n 0, 1) := by decide +kernel
theorem dX10_wetter_16 : decode cX10_wetter 16 = .ok (.getfield 55, 3) := by decide +kernel
theorem dX10_wetter_19 : decode cX10_wetter 19 = .ok (.getfield 183, 3) := by decide +kernel
theorem dX10_wetter_22 : decode cX10_wetter 22 = .ok (.istore 5, 2) := by decide +kernel
theorem dX10_wetter_24 : decode cX10_wetter 24 = .ok (.iconst (-1), 1) := by decide +kernel
theorem dX10_wetter_25 : decode cX10_wetter 25 = .ok (.istore 6, 2) := by decide +kernel
theorem dX10_wetter_27 : decode cX10_wetter 27 = .ok (.iconst 0, 1) := by decide +kernel
theorem dX10_wetter_28 : decode cX10_wetter 28 = .ok (.istore 7, 2) := by decide +kernel
theorem dX10_wetter_30 : decode cX10_wetter 30 = .ok (.iload 7, 2) := by decide +kernel
theorem dX10_wetter_32 : decode cX10_wetter 32 = .ok (.bipush 100, 2) := by decide +kernel
theorem dX10_wetter_34 : decode cX10_wetter 34 = .ok (.if_icmp .gt 58, 3) := by decide +kernel
theorem dX10_wetter_37 : decode cX10_wetter 37 = .ok (.iload 7, 2) := by decide +kernel
theorem dX10_wetter_39 : decode cX10_wetter 39 = .ok (.ifCond .eq 16, 3) := by decide +kernel
theorem dX10_wetter_42 : decode cX10_wetter 42 = .ok (.aload_n 0, 1) := by decide +kernel
theorem dX10_wetter_43 : decode cX10_wetter 43 = .ok (.getfield 55, 3) := by decide +kernel
theorem dX10_wetter_46 : decode cX10_wetter 46 = .ok (.iload_n 1, 1) := by decide +kernel
theorem dX10_wetter_47 : decode cX10_wetter 47 = .ok (.iload 7, 2) := by decide +kernel
theorem dX10_wetter_49 : decode cX10_wetter 49 = .ok (.invokevirtual 235, 3) := by decide +kernel
theorem dX10_wetter_52 : decode cX10_wetter 52 = .ok (.ifCond .eq 30, 3) := by decide +kernel
theorem dX10_wetter_55 : decode cX10_wetter 55 = .ok (.aload_n 0, 1) := by decide +kernel
theorem dX10_wetter_56 : decode cX10_wetter 56 = .ok (.getfield 55, 3) := by decide +kernel
theorem dX10_wetter_59 : decode cX10_wetter 59 = .ok (.iload_n 1, 1) := by decide +kernel
theorem dX10_wetter_60 : decode cX10_wetter 60 = .ok (.iload 7, 2) := by decide +kernel
theorem dX10_wetter_62 : decode cX10_wetter 62 = .ok (.invokevirtual 239, 3) := by decide +kernel
theorem dX10_wetter_65 : decode cX10_wetter 65 = .ok (.aload_n 0, 1) := by decide +kernel
theorem dX10_wetter_66 : decode cX10_wetter 66 = .ok (.iload_n 1, 1) := by decide +kernel
theorem dX10_wetter_67 : decode cX10_wetter 67 = .ok (.iload_n 2, 1) := by decide +kernel
theorem dX10_wetter_68 : decode cX10_wetter 68 = .ok (.iload_n 3, 1) := by decide +kernel
theorem dX10_wetter_69 : decode cX10_wetter 69 = .ok (.iload 4, 2) := by decide +kernel
theorem dX10_wetter_71 : decode cX10_wetter 71 = .ok (.iconst 1, 1) := by decide +kernel
theorem dX10_wetter_72 : decode cX10_wetter 72 = .ok (.invokevirtual 218, 3) := by decide +kernel
theorem dX10_wetter_75 : decode cX10_wetter 75 = .ok (.iconst (-1), 1) := by decide +kernel
theorem dX10_wetter_76 : decode cX10_wetter 76 = .ok (.if_icmp .ne 6, 3) := by decide +kernel
theorem dX10_wetter_79 : decode cX10_wetter 79 = .ok (.goto 13, 3) := by decide +kernel
theorem dX10_wetter_82 : decode cX10_wetter 82 = .ok (.iload 7, 2) := by decide +kernel
theorem dX10_wetter_84 : decode cX10_wetter 84 = .ok (.istore 6, 2) := by decide +kernel
theorem dX10_wetter_86 : decode cX10_wetter 86 = .ok (.iinc 7 1, 3) := by decide +kernel
theorem dX10_wetter_89 : decode cX10_wetter 89 = .ok (.goto (-59), 3) := by decide +kernel
theorem dX10_wetter_92 : decode cX10_wetter 92 = .ok (.aload_n 0, 1) := by decide +kernel
theorem dX10_wetter_93 : decode cX10_wetter 93 = .ok (.getfield 55, 3) := by decide +kernel
theorem dX10_wetter_96 : decode cX10_wetter 96 = .ok (.iload_n 1, 1) := by decide +kernel
theorem dX10_wetter_97 : decode cX10_wetter 97 = .ok (.iload 5, 2) := by decide +kernel
theorem dX10_wetter_99 : decode cX10_wetter 99 = .ok (.invokevirtual 239, 3) := by decide +kernel
theorem dX10_wetter_102 : decode cX10_wetter 102 = .ok (.iload 6, 2) := by decide +kernel
theorem dX10_wetter_104 : decode cX10_wetter 104 = .ok (.ireturn, 1) := by decide +kernel
set_option maxRecDepth 20000 in
theorem ggX10_room_X6_has : GoodIn wsX10_room wsX6_has := goodIn_r _ [9, 10, 50, 51, 52, 53] (by decide +kernel) (by decide +kernel)
set_option maxRecDepth 20000 in
theorem gX10_room_X6_has : GoodIn wsX10_room (wsV RX10 139 RX6 yX6_has wsX6_has) := goodIn_app (goodIn_of _ (by decide +kernel)) ggX10_room_X6_has
theorem dX10_room_0 : decode cX10_room 0 = .ok (.aload_n 0, 1) := by decide +kernel
theorem dX10_room_1 : decode cX10_room 1 = .ok (.getfield 27, 3) := by decide +kernel
theorem dX10_room_4 : decode cX10_room 4 = .ok (.getfield 135, 3) := by decide +kernel
theorem dX10_room_7 : decode cX10_room 7 = .ok (.iload_n 1, 1) := by decide +kernel
theorem dX10_room_8 : decode cX10_room 8 = .ok (.invokevirtual 139, 3) := by decide +kernel
theorem dX10_room_11 : decode cX10_room 11 = .ok (.ifCond .eq 17, 3) := by decide +kernel
theorem dX10_room_14 : decode cX10_room 14 = .ok (.aload_n 0, 1) := by decide +kernel
theorem dX10_room_15 : decode cX10_room 15 = .ok (.getfield 27, 3) := by decide +kernel
theorem dX10_room_18 : decode cX10_room 18 = .ok (.getfield 152, 3) := by decide +kernel
theorem dX10_room_21 : decode cX10_room 21 = .ok (.iload_n 2, 1) := by decide +kernel
theorem dX10_room_22 : decode cX10_room 22 = .ok (.invokevirtual 139, 3) := by decide +kernel
theorem dX10_room_25 : decode cX10_room 25 = .ok (.ifCond .ne 6, 3) := by decide +kernel
theorem dX10_room_28 : decode cX10_room 28 = .ok (.ldc 242, 2) := by decide +kernel
theorem dX10_room_30 : decode cX10_room 30 = .ok (.ireturn, 1) := by decide +kernel
theorem dX10_room_31 : decode cX10_room 31 = .ok (.aload_n 0, 1) := by decide +kernel
theorem dX10_room_32 : decode cX10_room 32 = .ok (.getfield 27, 3) := by decide +kernel
theorem dX10_room_35 : decode cX10_room 35 = .ok (.getfield 152, 3) := by decide +kernel
theorem dX10_room_38 : decode cX10_room 38 = .ok (.iload_n 2, 1) := by decide +kernel
theorem dX10_room_39 : decode cX10_room 39 = .ok (.iconst 1, 1) := by decide +kernel
theorem dX10_room_40 : decode cX10_room 40 = .ok (.invokevirtual 179, 3) := by decide +kernel
theorem dX10_room_43 : decode cX10_room 43 = .ok (.aload_n 0, 1) := by decide +kernel
theorem dX10_room_44 : decode cX10_room 44 = .ok (.getfield 27, 3) := by decide +kernel
theorem dX10_room_47 : decode cX10_room 47 = .ok (.iload_n 1, 1) := by decide +kernel
theorem dX10_room_48 : decode cX10_room 48 = .ok (.iload_n 2, 1) := by decide +kernel
theorem dX10_room_49 : decode cX10_room 49 = .ok (.invokevirtual 226, 3) := by decide +kernel
theorem dX10_room_52 : decode cX10_room 52 = .ok (.isub, 1) := by decide +kernel
theorem dX10_room_53 : decode cX10_room 53 = .ok (.ireturn, 1) := by decide +kernel
set_option maxRecDepth 20000 in
theorem ggX10_told_X10_isAmong : GoodIn wsX10_told wsX10_isAmong := goodIn_r _ [9] (by decide +kernel) (by decide +kernel)
set_option maxRecDepth 20000 in
theorem gX10_told_X10_isAmong : GoodIn wsX10_told (va_wsS RX10 176 yX10_isAmong wsX10_isAmong) := goodIn_app (goodIn_of _ (by decide +kernel)) ggX10_told_X10_isAmong
set_option maxRecDepth 20000 in
theorem ggX10_told_X10_hasRun : GoodIn wsX10_told wsX10_hasRun := goodIn_r _ [13, 2, 14, 15, 16, 17, 18, 19, 20, 21, 22, 23, 8, 24, 3, 25, 26, 27, 28, 57, 58, 59, 60, 61, 62, 63, 64, 65, 66, 67, 68, 69, 70, 71, 72, 73, 74, 75, 76, 77, 78, 79, 80, 84, 85, 86, 87] (by decide +kernel) (by decide +kernel)
set_option maxRecDepth 20000 in
theorem gX10_told_X10_hasRun : GoodIn wsX10_told (wsV RX10 148 RX10 yX10_hasRun wsX10_hasRun) := goodIn_app (goodIn_of _ (by decide +kernel)) ggX10_told_X10_hasRun
theorem dX10_told_0 : decode cX10_told 0 = .ok (.iload_n 1, 1) := by decide +kernel
theorem dX10_told_1 : decode cX10_told 1 = .ok (.iconst 0, 1) := by decide +kernel
theorem dX10_told_2 : decode cX10_told 2 = .ok (.iconst 3, 1) := by decide +kernel
theorem dX10_told_3 : decode cX10_told 3 = .ok (.invokestatic 176, 3) := by decide +kernel
theorem dX10_told_6 : decode cX10_told 6 = .ok (.ifCond .eq 14, 3) := by decide +kernel
theorem dX10_told_9 : decode cX10_told 9 = .ok (.aload_n 0, 1) := by decide +kernel
theorem dX10_told_10 : decode cX10_told 10 = .ok (.iload_n 2, 1) := by decide +kernel
theorem dX10_told_11 : decode cX10_told 11 = .ok (.iload_n 3, 1) := by decide +kernel
theorem dX10_told_12 : decode cX10_told 12 = .ok (.iload 4, 2) := by decide +kernel
theorem dX10_told_14 : decode cX10_told 14 = .ok (.invokevirtual 148, 3) := by decide +kernel
theorem dX10_told_17 : decode cX10_told 17 = .ok (.ifCond .ne 6, 3) := by decide +kernel
theorem dX10_told_20 : decode cX10_told 20 = .ok (.bipush (-2), 2) := by decide +kernel
theorem dX10_told_22 : decode cX10_told 22 = .ok (.ireturn, 1) := by decide +kernel
theorem dX10_told_23 : decode cX10_told 23 = .ok (.aload_n 0, 1) := by decide +kernel
theorem dX10_told_24 : decode cX10_told 24 = .ok (.getfield 48, 3) := by decide +kernel
theorem dX10_told_27 : decode cX10_told 27 = .ok (.iload_n 1, 1) := by decide +kernel
theorem dX10_told_28 : decode cX10_told 28 = .ok (.aaload, 1) := by decide +kernel
theorem dX10_told_29 : decode cX10_told 29 = .ok (.invokestatic 243, 3) := by decide +kernel
theorem dX10_told_32 : decode cX10_told 32 = .ok (.istore 5, 2) := by decide +kernel
theorem dX10_told_34 : decode cX10_told 34 = .ok (.iload 5, 2) := by decide +kernel
theorem dX10_told_36 : decode cX10_told 36 = .ok (.ifCond .eq 6, 3) := by decide +kernel
theorem dX10_told_39 : decode cX10_told 39 = .ok (.iload 5, 2) := by decide +kernel
theorem dX10_told_41 : decode cX10_told 41 = .ok (.ireturn, 1) := by decide +kernel
theorem dX10_told_42 : decode cX10_told 42 = .ok (.iload_n 3, 1) := by decide +kernel
theorem dX10_told_43 : decode cX10_told 43 = .ok (.istore 6, 2) := by decide +kernel
theorem dX10_told_45 : decode cX10_told 45 = .ok (.iload 4, 2) := by decide +kernel
theorem dX10_told_47 : decode cX10_told 47 = .ok (.istore 7, 2) := by decide +kernel
theorem dX10_told_49 : decode cX10_told 49 = .ok (.iconst 0, 1) := by decide +kernel
theorem dX10_told_50 : decode cX10_told 50 = .ok (.istore 8, 2) := by decide +kernel
theorem dX10_told_52 : decode cX10_told 52 = .ok (.iload 8, 2) := by decide +kernel
theorem dX10_told_54 : decode cX10_told 54 = .ok (.sipush 404, 3) := by decide +kernel
theorem dX10_told_57 : decode cX10_told 57 = .ok (.if_icmp .ge 84, 3) := by decide +kernel
theorem dX10_told_60 : decode cX10_told 60 = .ok (.iload 6, 2) := by decide +kernel
theorem dX10_told_62 : decode cX10_told 62 = .ok (.aload_n 0, 1) := by decide +kernel
theorem dX10_told_63 : decode cX10_told 63 = .ok (.getfield 27, 3) := by decide +kernel
theorem dX10_told_66 : decode cX10_told 66 = .ok (.getfield 128, 3) := by decide +kernel
theorem dX10_told_69 : decode cX10_told 69 = .ok (.if_icmp .gt 72, 3) := by decide +kernel
theorem dX10_told_72 : decode cX10_told 72 = .ok (.iload 8, 2) := by decide +kernel
theorem dX10_told_74 : decode cX10_told 74 = .ok (.aload_n 0, 1) := by decide +kernel
theorem dX10_told_75 : decode cX10_told 75 = .ok (.getfield 48, 3) := by decide +kernel
theorem dX10_told_78 : decode cX10_told 78 = .ok (.iload_n 1, 1) := by decide +kernel
theorem dX10_told_79 : decode cX10_told 79 = .ok (.aaload, 1) := by decide +kernel
theorem dX10_told_80 : decode cX10_told 80 = .ok (.getfield 247, 3) := by decide +kernel
theorem dX10_told_83 : decode cX10_told 83 = .ok (.if_icmp .ge 18, 3) := by decide +kernel
theorem dX10_told_86 : decode cX10_told 86 = .ok (.aload_n 0, 1) := by decide +kernel
theorem dX10_told_87 : decode cX10_told 87 = .ok (.getfield 48, 3) := by decide +kernel
theorem dX10_told_90 : decode cX10_told 90 = .ok (.iload_n 1, 1) := by decide +kernel
theorem dX10_told_91 : decode cX10_told 91 = .ok (.aaload, 1) := by decide +kernel
theorem dX10_told_92 : decode cX10_told 92 = .ok (.iload 8, 2) := by decide +kernel
theorem dX10_told_94 : decode cX10_told 94 = .ok (.invokevirtual 250, 3) := by decide +kernel
theorem dX10_told_97 : decode cX10_told 97 = .ok (.l2i, 1) := by decide +kernel
theorem dX10_told_98 : decode cX10_told 98 = .ok (.goto 4, 3) := by decide +kernel
theorem dX10_told_101 : decode cX10_told 101 = .ok (.iconst 3, 1) := by decide +kernel
theorem dX10_told_102 : decode cX10_told 102 = .ok (.istore 9, 2) := by decide +kernel
theorem dX10_told_104 : decode cX10_told 104 = .ok (.aload_n 0, 1) := by decide +kernel
theorem dX10_told_105 : decode cX10_told 105 = .ok (.getfield 55, 3) := by decide +kernel
theorem dX10_told_108 : decode cX10_told 108 = .ok (.iload_n 2, 1) := by decide +kernel
theorem dX10_told_109 : decode cX10_told 109 = .ok (.iload 6, 2) := by decide +kernel
theorem dX10_told_111 : decode cX10_told 111 = .ok (.iload 7, 2) := by decide +kernel
theorem dX10_told_113 : decode cX10_told 113 = .ok (.iload 9, 2) := by decide +kernel
theorem dX10_told_115 : decode cX10_told 115 = .ok (.invokevirtual 196, 3) := by decide +kernel
theorem dX10_told_118 : decode cX10_told 118 = .ok (.istore 7, 2) := by decide +kernel
theorem dX10_told_120 : decode cX10_told 120 = .ok (.iload 7, 2) := by decide +kernel
theorem dX10_told_122 : decode cX10_told 122 = .ok (.ifCond .ne 6, 3) := by decide +kernel
theorem dX10_told_125 : decode cX10_told 125 = .ok (.iload 6, 2) := by decide +kernel
theorem dX10_told_127 : decode cX10_told 127 = .ok (.ireturn, 1) := by decide +kernel
theorem dX10_told_128 : decode cX10_told 128 = .ok (.iload 6, 2) := by decide +kernel
theorem dX10_told_130 : decode cX10_told 130 = .ok (.iload 7, 2) := by decide +kernel
theorem dX10_told_132 : decode cX10_told 132 = .ok (.iadd, 1) := by decide +kernel
theorem dX10_told_133 : decode cX10_told 133 = .ok (.istore 6, 2) := by decide +kernel
theorem dX10_told_135 : decode cX10_told 135 = .ok (.iinc 8 1, 3) := by decide +kernel
theorem dX10_told_138 : decode cX10_told 138 = .ok (.goto (-86), 3) := by decide +kernel
theorem dX10_told_141 : decode cX10_told 141 = .ok (.iconst (-1), 1) := by decide +kernel
theorem dX10_told_142 : decode cX10_told 142 = .ok (.ireturn, 1) := by decide +kernel
set_option maxRecDepth 20000 in
theorem ggX10_judge_X10_isAmong : GoodIn wsX10_judge wsX10_isAmong := goodIn_r _ [9] (by decide +kernel) (by decide +kernel)
set_option maxRecDepth 20000 in
theorem gX10_judge_X10_isAmong : GoodIn wsX10_judge (va_wsS RX10 176 yX10_isAmong wsX10_isAmong) := goodIn_app (goodIn_of _ (by decide +kernel)) ggX10_judge_X10_isAmong
set_option maxRecDepth 20000 in
theorem ggX10_judge_X10_takesAim : GoodIn wsX10_judge wsX10_takesAim := goodIn_r _ [13, 5, 14, 15, 16, 8, 17, 4, 18, 19, 20, 21, 22, 23, 24, 25, 26, 27, 28, 29, 30, 31, 32, 33, 34, 35, 36, 37, 38, 39, 40, 41, 42, 43, 44, 45, 46, 7, 9, 47, 48, 49, 50, 51, 52, 53, 54, 55, 56, 57, 58, 59, 60, 61, 62, 63, 64, 65, 66, 67, 68, 69, 70, 71, 72, 73, 74, 75, 76, 77, 78, 79, 80, 81, 82, 83, 84, 85, 86, 87, 88, 89, 90, 91, 122, 123, 124, 125, 126, 127, 128, 129, 130, 131, 132, 133, 134, 135, 136, 140, 141, 142, 143, 144, 145, 146, 147, 148, 149, 150, 151, 152, 153, 154, 155, 156, 157, 158, 159, 160, 161, 162, 163, 164, 165] (by decide +kernel) (by decide +kernel)
set_option maxRecDepth 20000 in
theorem gX10_judge_X10_takesAim : GoodIn wsX10_judge (wsV RX10 200 RX10 yX10_takesAim wsX10_takesAim) := goodIn_app (goodIn_of _ (by decide +kernel)) ggX10_judge_X10_takesAim
theorem dX10_judge_0 : decode cX10_judge 0 = .ok (.iload_n 1, 1) := by decide +kernel
theorem dX10_judge_1 : decode cX10_judge 1 = .ok (.iconst 0, 1) := by decide +kernel
theorem dX10_judge_2 : decode cX10_judge 2 = .ok (.iconst 3, 1) := by decide +kernel
theorem dX10_judge_3 : decode cX10_judge 3 = .ok (.invokestatic 176, 3) := by decide +kernel
theorem dX10_judge_6 : decode cX10_judge 6 = .ok (.ifCond .eq 16, 3) := by decide +kernel
theorem dX10_judge_9 : decode cX10_judge 9 = .ok (.aload_n 0, 1) := by decide +kernel
theorem dX10_judge_10 : decode cX10_judge 10 = .ok (.iload_n 2, 1) := by decide +kernel
theorem dX10_judge_11 : decode cX10_judge 11 = .ok (.iload_n 3, 1) := by decide +kernel
theorem dX10_judge_12 : decode cX10_judge 12 = .ok (.iload 4, 2) := by decide +kernel
theorem dX10_judge_14 : decode cX10_judge 14 = .ok (.iload 5, 2) := by decide +kernel
theorem dX10_judge_16 : decode cX10_judge 16 = .ok (.invokevirtual 200, 3) := by decide +kernel
theorem dX10_judge_19 : decode cX10_judge 19 = .ok (.ifCond .ne 6, 3) := by decide +kernel
theorem dX10_judge_22 : decode cX10_judge 22 = .ok (.bipush (-2), 2) := by decide +kernel
theorem dX10_judge_24 : decode cX10_judge 24 = .ok (.ireturn, 1) := by decide +kernel
theorem dX10_judge_25 : decode cX10_judge 25 = .ok (.aload_n 0, 1) := by decide +kernel
theorem dX10_judge_26 : decode cX10_judge 26 = .ok (.getfield 48, 3) := by decide +kernel
theorem dX10_judge_29 : decode cX10_judge 29 = .ok (.iload_n 1, 1) := by decide +kernel
theorem dX10_judge_30 : decode cX10_judge 30 = .ok (.aaload, 1) := by decide +kernel
theorem dX10_judge_31 : decode cX10_judge 31 = .ok (.invokestatic 243, 3) := by decide +kernel
theorem dX10_judge_34 : decode cX10_judge 34 = .ok (.istore 6, 2) := by decide +kernel
theorem dX10_judge_36 : decode cX10_judge 36 = .ok (.iload 6, 2) := by decide +kernel
theorem dX10_judge_38 : decode cX10_judge 38 = .ok (.ifCond .eq 6, 3) := by decide +kernel
theorem dX10_judge_41 : decode cX10_judge 41 = .ok (.iload 6, 2) := by decide +kernel
theorem dX10_judge_43 : decode cX10_judge 43 = .ok (.ireturn, 1) := by decide +kernel
theorem dX10_judge_44 : decode cX10_judge 44 = .ok (.aload_n 0, 1) := by decide +kernel
theorem dX10_judge_45 : decode cX10_judge 45 = .ok (.getfield 48, 3) := by decide +kernel
theorem dX10_judge_48 : decode cX10_judge 48 = .ok (.iload_n 1, 1) := by decide +kernel
theorem dX10_judge_49 : decode cX10_judge 49 = .ok (.aaload, 1) := by decide +kernel
theorem dX10_judge_50 : decode cX10_judge 50 = .ok (.getfield 247, 3) := by decide +kernel
theorem dX10_judge_53 : decode cX10_judge 53 = .ok (.istore 7, 2) := by decide +kernel
theorem dX10_judge_55 : decode cX10_judge 55 = .ok (.iload 4, 2) := by decide +kernel
theorem dX10_judge_57 : decode cX10_judge 57 = .ok (.istore 8, 2) := by decide +kernel
theorem dX10_judge_59 : decode cX10_judge 59 = .ok (.iload 5, 2) := by decide +kernel
theorem dX10_judge_61 : decode cX10_judge 61 = .ok (.istore 9, 2) := by decide +kernel
theorem dX10_judge_63 : decode cX10_judge 63 = .ok (.iconst 0, 1) := by decide +kernel
theorem dX10_judge_64 : decode cX10_judge 64 = .ok (.istore 10, 2) := by decide +kernel
theorem dX10_judge_66 : decode cX10_judge 66 = .ok (.iload 10, 2) := by decide +kernel
theorem dX10_judge_68 : decode cX10_judge 68 = .ok (.iload 7, 2) := by decide +kernel
theorem dX10_judge_70 : decode cX10_judge 70 = .ok (.if_icmp .ge 89, 3) := by decide +kernel
theorem dX10_judge_73 : decode cX10_judge 73 = .ok (.aload_n 0, 1) := by decide +kernel
theorem dX10_judge_74 : decode cX10_judge 74 = .ok (.getfield 55, 3) := by decide +kernel
theorem dX10_judge_77 : decode cX10_judge 77 = .ok (.iload_n 2, 1) := by decide +kernel
theorem dX10_judge_78 : decode cX10_judge 78 = .ok (.iload 8, 2) := by decide +kernel
theorem dX10_judge_80 : decode cX10_judge 80 = .ok (.iload 9, 2) := by decide +kernel
theorem dX10_judge_82 : decode cX10_judge 82 = .ok (.aload_n 0, 1) := by decide +kernel
theorem dX10_judge_83 : decode cX10_judge 83 = .ok (.getfield 48, 3) := by decide +kernel
theorem dX10_judge_86 : decode cX10_judge 86 = .ok (.iload_n 1, 1) := by decide +kernel
theorem dX10_judge_87 : decode cX10_judge 87 = .ok (.aaload, 1) := by decide +kernel
theorem dX10_judge_88 : decode cX10_judge 88 = .ok (.iload 10, 2) := by decide +kernel
theorem dX10_judge_90 : decode cX10_judge 90 = .ok (.invokevirtual 250, 3) := by decide +kernel
theorem dX10_judge_93 : decode cX10_judge 93 = .ok (.l2i, 1) := by decide +kernel
theorem dX10_judge_94 : decode cX10_judge 94 = .ok (.invokevirtual 196, 3) := by decide +kernel
theorem dX10_judge_97 : decode cX10_judge 97 = .ok (.istore 9, 2) := by decide +kernel
theorem dX10_judge_99 : decode cX10_judge 99 = .ok (.iload 8, 2) := by decide +kernel
theorem dX10_judge_101 : decode cX10_judge 101 = .ok (.iload 9, 2) := by decide +kernel
theorem dX10_judge_103 : decode cX10_judge 103 = .ok (.iadd, 1) := by decide +kernel
theorem dX10_judge_104 : decode cX10_judge 104 = .ok (.istore 8, 2) := by decide +kernel
theorem dX10_judge_106 : decode cX10_judge 106 = .ok (.iload 9, 2) := by decide +kernel
theorem dX10_judge_108 : decode cX10_judge 108 = .ok (.ifCond .ne 25, 3) := by decide +kernel
theorem dX10_judge_111 : decode cX10_judge 111 = .ok (.aload_n 0, 1) := by decide +kernel
theorem dX10_judge_112 : decode cX10_judge 112 = .ok (.getfield 27, 3) := by decide +kernel
theorem dX10_judge_115 : decode cX10_judge 115 = .ok (.iload_n 2, 1) := by decide +kernel
theorem dX10_judge_116 : decode cX10_judge 116 = .ok (.iload_n 3, 1) := by decide +kernel
theorem dX10_judge_117 : decode cX10_judge 117 = .ok (.iload 8, 2) := by decide +kernel
theorem dX10_judge_119 : decode cX10_judge 119 = .ok (.invokevirtual 258, 3) := by decide +kernel
theorem dX10_judge_122 : decode cX10_judge 122 = .ok (.ifCond .eq 8, 3) := by decide +kernel
theorem dX10_judge_125 : decode cX10_judge 125 = .ok (.iload 7, 2) := by decide +kernel
theorem dX10_judge_127 : decode cX10_judge 127 = .ok (.goto 5, 3) := by decide +kernel
theorem dX10_judge_130 : decode cX10_judge 130 = .ok (.iload 10, 2) := by decide +kernel
theorem dX10_judge_132 : decode cX10_judge 132 = .ok (.ireturn, 1) := by decide +kernel
theorem dX10_judge_133 : decode cX10_judge 133 = .ok (.aload_n 0, 1) := by decide +kernel
theorem dX10_judge_134 : decode cX10_judge 134 = .ok (.getfield 64, 3) := by decide +kernel
theorem dX10_judge_137 : decode cX10_judge 137 = .ok (.iload_n 2, 1) := by decide +kernel
theorem dX10_judge_138 : decode cX10_judge 138 = .ok (.iload_n 3, 1) := by decide +kernel
theorem dX10_judge_139 : decode cX10_judge 139 = .ok (.iload 8, 2) := by decide +kernel
theorem dX10_judge_141 : decode cX10_judge 141 = .ok (.iload 9, 2) := by decide +kernel
theorem dX10_judge_143 : decode cX10_judge 143 = .ok (.invokevirtual 203, 3) := by decide +kernel
theorem dX10_judge_146 : decode cX10_judge 146 = .ok (.iconst (-1), 1) := by decide +kernel
theorem dX10_judge_147 : decode cX10_judge 147 = .ok (.if_icmp .ne 6, 3) := by decide +kernel
theorem dX10_judge_150 : decode cX10_judge 150 = .ok (.iload 10, 2) := by decide +kernel
theorem dX10_judge_152 : decode cX10_judge 152 = .ok (.ireturn, 1) := by decide +kernel
theorem dX10_judge_153 : decode cX10_judge 153 = .ok (.iinc 10 1, 3) := by decide +kernel
theorem dX10_judge_156 : decode cX10_judge 156 = .ok (.goto (-90), 3) := by decide +kernel
theorem dX10_judge_159 : decode cX10_judge 159 = .ok (.iload 7, 2) := by decide +kernel
theorem dX10_judge_161 : decode cX10_judge 161 = .ok (.ireturn, 1) := by decide +kernel
set_option maxRecDepth 20000 in
theorem ggX10_pulls_X6_has : GoodIn wsX10_pulls wsX6_has := goodIn_r _ [8, 9, 74, 75, 76, 77] (by decide +kernel) (by decide +kernel)
set_option maxRecDepth 20000 in
theorem gX10_pulls_X6_has : GoodIn wsX10_pulls (wsV RX10 139 RX6 yX6_has wsX6_has) := goodIn_app (goodIn_of _ (by decide +kernel)) ggX10_pulls_X6_has
theorem dX10_pulls_0 : decode cX10_pulls 0 = .ok (.aload_n 0, 1) := by decide +kernel
theorem dX10_pulls_1 : decode cX10_pulls 1 = .ok (.getfield 27, 3) := by decide +kernel
theorem dX10_pulls_4 : decode cX10_pulls 4 = .ok (.getfield 193, 3) := by decide +kernel
theorem dX10_pulls_7 : decode cX10_pulls 7 = .ok (.iload_n 1, 1) := by decide +kernel
theorem dX10_pulls_8 : decode cX10_pulls 8 = .ok (.invokevirtual 139, 3) := by decide +kernel
theorem dX10_pulls_11 : decode cX10_pulls 11 = .ok (.ifCond .eq 21, 3) := by decide +kernel
theorem dX10_pulls_14 : decode cX10_pulls 14 = .ok (.aload_n 0, 1) := by decide +kernel
theorem dX10_pulls_15 : decode cX10_pulls 15 = .ok (.iload_n 2, 1) := by decide +kernel
theorem dX10_pulls_16 : decode cX10_pulls 16 = .ok (.invokevirtual 145, 3) := by decide +kernel
theorem dX10_pulls_19 : decode cX10_pulls 19 = .ok (.ifCond .eq 13, 3) := by decide +kernel
theorem dX10_pulls_22 : decode cX10_pulls 22 = .ok (.iload_n 3, 1) := by decide +kernel
theorem dX10_pulls_23 : decode cX10_pulls 23 = .ok (.iconst 0, 1) := by decide +kernel
theorem dX10_pulls_24 : decode cX10_pulls 24 = .ok (.bipush 16, 2) := by decide +kernel
theorem dX10_pulls_26 : decode cX10_pulls 26 = .ok (.invokestatic 176, 3) := by decide +kernel
theorem dX10_pulls_29 : decode cX10_pulls 29 = .ok (.ifCond .ne 6, 3) := by decide +kernel
theorem dX10_pulls_32 : decode cX10_pulls 32 = .ok (.bipush (-2), 2) := by decide +kernel
theorem dX10_pulls_34 : decode cX10_pulls 34 = .ok (.ireturn, 1) := by decide +kernel
theorem dX10_pulls_35 : decode cX10_pulls 35 = .ok (.aload_n 0, 1) := by decide +kernel
theorem dX10_pulls_36 : decode cX10_pulls 36 = .ok (.getfield 55, 3) := by decide +kernel
theorem dX10_pulls_39 : decode cX10_pulls 39 = .ok (.iload_n 1, 1) := by decide +kernel
theorem dX10_pulls_40 : decode cX10_pulls 40 = .ok (.iload_n 2, 1) := by decide +kernel
theorem dX10_pulls_41 : decode cX10_pulls 41 = .ok (.iload_n 3, 1) := by decide +kernel
theorem dX10_pulls_42 : decode cX10_pulls 42 = .ok (.invokevirtual 261, 3) := by decide +kernel
theorem dX10_pulls_45 : decode cX10_pulls 45 = .ok (.ireturn, 1) := by decide +kernel
set_option maxRecDepth 20000 in
theorem ggX10_passes_X6_has : GoodIn wsX10_passes wsX6_has := goodIn_r _ [8, 9, 126, 127, 128, 129] (by decide +kernel) (by decide +kernel)
set_option maxRecDepth 20000 in
theorem gX10_passes_X6_has : GoodIn wsX10_passes (wsV RX10 139 RX6 yX6_has wsX6_has) := goodIn_app (goodIn_of _ (by decide +kernel)) ggX10_passes_X6_has
theorem dX10_passes_0 : decode cX10_passes 0 = .ok (.aload_n 0, 1) := by decide +kernel
theorem dX10_passes_1 : decode cX10_passes 1 = .ok (.getfield 27, 3) := by decide +kernel
theorem dX10_passes_4 : decode cX10_passes 4 = .ok (.getfield 193, 3) := by decide +kernel
theorem dX10_passes_7 : decode cX10_passes 7 = .ok (.iload_n 1, 1) := by decide +kernel
theorem dX10_passes_8 : decode cX10_passes 8 = .ok (.invokevirtual 139, 3) := by decide +kernel
theorem dX10_passes_11 : decode cX10_passes 11 = .ok (.ifCond .eq 11, 3) := by decide +kernel
theorem dX10_passes_14 : decode cX10_passes 14 = .ok (.aload_n 0, 1) := by decide +kernel
theorem dX10_passes_15 : decode cX10_passes 15 = .ok (.iload_n 2, 1) := by decide +kernel
theorem dX10_passes_16 : decode cX10_passes 16 = .ok (.invokevirtual 145, 3) := by decide +kernel
theorem dX10_passes_19 : decode cX10_passes 19 = .ok (.ifCond .ne 6, 3) := by decide +kernel
theorem dX10_passes_22 : decode cX10_passes 22 = .ok (.bipush (-2), 2) := by decide +kernel
theorem dX10_passes_24 : decode cX10_passes 24 = .ok (.ireturn, 1) := by decide +kernel
theorem dX10_passes_25 : decode cX10_passes 25 = .ok (.aload_n 0, 1) := by decide +kernel
theorem dX10_passes_26 : decode cX10_passes 26 = .ok (.getfield 80, 3) := by decide +kernel
theorem dX10_passes_29 : decode cX10_passes 29 = .ok (.iload_n 1, 1) := by decide +kernel
theorem dX10_passes_30 : decode cX10_passes 30 = .ok (.invokevirtual 265, 3) := by decide +kernel
theorem dX10_passes_33 : decode cX10_passes 33 = .ok (.aload_n 0, 1) := by decide +kernel
theorem dX10_passes_34 : decode cX10_passes 34 = .ok (.getfield 27, 3) := by decide +kernel
theorem dX10_passes_37 : decode cX10_passes 37 = .ok (.getfield 193, 3) := by decide +kernel
theorem dX10_passes_40 : decode cX10_passes 40 = .ok (.iload_n 1, 1) := by decide +kernel
theorem dX10_passes_41 : decode cX10_passes 41 = .ok (.iconst 0, 1) := by decide +kernel
theorem dX10_passes_42 : decode cX10_passes 42 = .ok (.invokevirtual 179, 3) := by decide +kernel
theorem dX10_passes_45 : decode cX10_passes 45 = .ok (.aload_n 0, 1) := by decide +kernel
theorem dX10_passes_46 : decode cX10_passes 46 = .ok (.getfield 80, 3) := by decide +kernel
theorem dX10_passes_49 : decode cX10_passes 49 = .ok (.iload_n 1, 1) := by decide +kernel
theorem dX10_passes_50 : decode cX10_passes 50 = .ok (.iload_n 2, 1) := by decide +kernel
theorem dX10_passes_51 : decode cX10_passes 51 = .ok (.invokevirtual 268, 3) := by decide +kernel
theorem dX10_passes_54 : decode cX10_passes 54 = .ok (.iadd, 1) := by decide +kernel
theorem dX10_passes_55 : decode cX10_passes 55 = .ok (.ireturn, 1) := by decide +kernel
set_option maxRecDepth 20000 in
theorem ggX10_lets_X6_has : GoodIn wsX10_lets wsX6_has := goodIn_r _ [12, 13, 137, 138, 139, 140] (by decide +kernel) (by decide +kernel)
set_option maxRecDepth 20000 in
theorem gX10_lets_X6_has : GoodIn wsX10_lets (wsV RX10 139 RX6 yX6_has wsX6_has) := goodIn_app (goodIn_of _ (by decide +kernel)) ggX10_lets_X6_has
theorem dX10_lets_0 : decode cX10_lets 0 = .ok (.aload_n 0, 1) := by decide +kernel
theorem dX10_lets_1 : decode cX10_lets 1 = .ok (.getfield 27, 3) := by decide +kernel
theorem dX10_lets_4 : decode cX10_lets 4 = .ok (.getfield 173, 3) := by decide +kernel
theorem dX10_lets_7 : decode cX10_lets 7 = .ok (.iload_n 1, 1) := by decide +kernel
theorem dX10_lets_8 : decode cX10_lets 8 = .ok (.invokevirtual 139, 3) := by decide +kernel
theorem dX10_lets_11 : decode cX10_lets 11 = .ok (.ifCond .eq 12, 3) := by decide +kernel
theorem dX10_lets_14 : decode cX10_lets 14 = .ok (.iload_n 2, 1) := by decide +kernel
theorem dX10_lets_15 : decode cX10_lets 15 = .ok (.iconst 0, 1) := by decide +kernel
theorem dX10_lets_16 : decode cX10_lets 16 = .ok (.iconst 2, 1) := by decide +kernel
theorem dX10_lets_17 : decode cX10_lets 17 = .ok (.invokestatic 176, 3) := by decide +kernel
theorem dX10_lets_20 : decode cX10_lets 20 = .ok (.ifCond .ne 6, 3) := by decide +kernel
theorem dX10_lets_23 : decode cX10_lets 23 = .ok (.bipush (-2), 2) := by decide +kernel
theorem dX10_lets_25 : decode cX10_lets 25 = .ok (.ireturn, 1) := by decide +kernel
theorem dX10_lets_26 : decode cX10_lets 26 = .ok (.aload_n 0, 1) := by decide +kernel
theorem dX10_lets_27 : decode cX10_lets 27 = .ok (.getfield 27, 3) := by decide +kernel
theorem dX10_lets_30 : decode cX10_lets 30 = .ok (.getfield 173, 3) := by decide +kernel
theorem dX10_lets_33 : decode cX10_lets 33 = .ok (.iload_n 1, 1) := by decide +kernel
theorem dX10_lets_34 : decode cX10_lets 34 = .ok (.iconst 0, 1) := by decide +kernel
theorem dX10_lets_35 : decode cX10_lets 35 = .ok (.invokevirtual 179, 3) := by decide +kernel
theorem dX10_lets_38 : decode cX10_lets 38 = .ok (.istore_n 3, 1) := by decide +kernel
theorem dX10_lets_39 : decode cX10_lets 39 = .ok (.aload_n 0, 1) := by decide +kernel
theorem dX10_lets_40 : decode cX10_lets 40 = .ok (.getfield 80, 3) := by decide +kernel
theorem dX10_lets_43 : decode cX10_lets 43 = .ok (.iload_n 3, 1) := by decide +kernel
theorem dX10_lets_44 : decode cX10_lets 44 = .ok (.invokevirtual 265, 3) := by decide +kernel
theorem dX10_lets_47 : decode cX10_lets 47 = .ok (.aload_n 0, 1) := by decide +kernel
theorem dX10_lets_48 : decode cX10_lets 48 = .ok (.getfield 80, 3) := by decide +kernel
theorem dX10_lets_51 : decode cX10_lets 51 = .ok (.iload_n 1, 1) := by decide +kernel
theorem dX10_lets_52 : decode cX10_lets 52 = .ok (.invokevirtual 271, 3) := by decide +kernel
theorem dX10_lets_55 : decode cX10_lets 55 = .ok (.ifCond .ne 5, 3) := by decide +kernel
theorem dX10_lets_58 : decode cX10_lets 58 = .ok (.iconst (-1), 1) := by decide +kernel
theorem dX10_lets_59 : decode cX10_lets 59 = .ok (.ireturn, 1) := by decide +kernel
theorem dX10_lets_60 : decode cX10_lets 60 = .ok (.iload_n 2, 1) := by decide +kernel
theorem dX10_lets_61 : decode cX10_lets 61 = .ok (.ifCond .ne 26, 3) := by decide +kernel
theorem dX10_lets_64 : decode cX10_lets 64 = .ok (.aload_n 0, 1) := by decide +kernel
theorem dX10_lets_65 : decode cX10_lets 65 = .ok (.getfield 27, 3) := by decide +kernel
theorem dX10_lets_68 : decode cX10_lets 68 = .ok (.getfield 193, 3) := by decide +kernel
theorem dX10_lets_71 : decode cX10_lets 71 = .ok (.iload_n 3, 1) := by decide +kernel
theorem dX10_lets_72 : decode cX10_lets 72 = .ok (.iconst 0, 1) := by decide +kernel
theorem dX10_lets_73 : decode cX10_lets 73 = .ok (.invokevirtual 179, 3) := by decide +kernel
theorem dX10_lets_76 : decode cX10_lets 76 = .ok (.aload_n 0, 1) := by decide +kernel
theorem dX10_lets_77 : decode cX10_lets 77 = .ok (.getfield 80, 3) := by decide +kernel
theorem dX10_lets_80 : decode cX10_lets 80 = .ok (.getfield 274, 3) := by decide +kernel
theorem dX10_lets_83 : decode cX10_lets 83 = .ok (.iload_n 1, 1) := by decide +kernel
theorem dX10_lets_84 : decode cX10_lets 84 = .ok (.iaload, 1) := by decide +kernel
theorem dX10_lets_85 : decode cX10_lets 85 = .ok (.iadd, 1) := by decide +kernel
theorem dX10_lets_86 : decode cX10_lets 86 = .ok (.ireturn, 1) := by decide +kernel
theorem dX10_lets_87 : decode cX10_lets 87 = .ok (.iload_n 2, 1) := by decide +kernel
theorem dX10_lets_88 : decode cX10_lets 88 = .ok (.iconst 1, 1) := by decide +kernel
theorem dX10_lets_89 : decode cX10_lets 89 = .ok (.if_icmp .ne 15, 3) := by decide +kernel
theorem dX10_lets_92 : decode cX10_lets 92 = .ok (.aload_n 0, 1) := by decide +kernel
theorem dX10_lets_93 : decode cX10_lets 93 = .ok (.getfield 80, 3) := by decide +kernel
theorem dX10_lets_96 : decode cX10_lets 96 = .ok (.getfield 277, 3) := by decide +kernel
theorem dX10_lets_99 : decode cX10_lets 99 = .ok (.iload_n 1, 1) := by decide +kernel
theorem dX10_lets_100 : decode cX10_lets 100 = .ok (.iaload, 1) := by decide +kernel
theorem dX10_lets_101 : decode cX10_lets 101 = .ok (.goto 12, 3) := by decide +kernel
theorem dX10_lets_104 : decode cX10_lets 104 = .ok (.aload_n 0, 1) := by decide +kernel
theorem dX10_lets_105 : decode cX10_lets 105 = .ok (.getfield 80, 3) := by decide +kernel
theorem dX10_lets_108 : decode cX10_lets 108 = .ok (.getfield 280, 3) := by decide +kernel
theorem dX10_lets_111 : decode cX10_lets 111 = .ok (.iload_n 1, 1) := by decide +kernel
theorem dX10_lets_112 : decode cX10_lets 112 = .ok (.iaload, 1) := by decide +kernel
theorem dX10_lets_113 : decode cX10_lets 113 = .ok (.ireturn, 1) := by decide +kernel
set_option maxRecDepth 20000 in
theorem ggX10_comes_X6_has : GoodIn wsX10_comes wsX6_has := goodIn_r _ [10, 11, 227, 228, 229, 230] (by decide +kernel) (by decide +kernel)
set_option maxRecDepth 20000 in
theorem gX10_comes_X6_has : GoodIn wsX10_comes (wsV RX10 139 RX6 yX6_has wsX6_has) := goodIn_app (goodIn_of _ (by decide +kernel)) ggX10_comes_X6_has
theorem dX10_comes_0 : decode cX10_comes 0 = .ok (.aload_n 0, 1) := by decide +kernel
theorem dX10_comes_1 : decode cX10_comes 1 = .ok (.getfield 27, 3) := by decide +kernel
theorem dX10_comes_4 : decode cX10_comes 4 = .ok (.getfield 173, 3) := by decide +kernel
theorem dX10_comes_7 : decode cX10_comes 7 = .ok (.iload_n 1, 1) := by decide +kernel
theorem dX10_comes_8 : decode cX10_comes 8 = .ok (.invokevirtual 139, 3) := by decide +kernel
theorem dX10_comes_11 : decode cX10_comes 11 = .ok (.ifCond .eq 12, 3) := by decide +kernel
theorem dX10_comes_14 : decode cX10_comes 14 = .ok (.iload_n 2, 1) := by decide +kernel
theorem dX10_comes_15 : decode cX10_comes 15 = .ok (.iconst 0, 1) := by decide +kernel
theorem dX10_comes_16 : decode cX10_comes 16 = .ok (.iconst 2, 1) := by decide +kernel
theorem dX10_comes_17 : decode cX10_comes 17 = .ok (.invokestatic 176, 3) := by decide +kernel
theorem dX10_comes_20 : decode cX10_comes 20 = .ok (.ifCond .ne 6, 3) := by decide +kernel
theorem dX10_comes_23 : decode cX10_comes 23 = .ok (.bipush (-2), 2) := by decide +kernel
theorem dX10_comes_25 : decode cX10_comes 25 = .ok (.ireturn, 1) := by decide +kernel
theorem dX10_comes_26 : decode cX10_comes 26 = .ok (.aload_n 0, 1) := by decide +kernel
theorem dX10_comes_27 : decode cX10_comes 27 = .ok (.iload_n 1, 1) := by decide +kernel
theorem dX10_comes_28 : decode cX10_comes 28 = .ok (.invokevirtual 292, 3) := by decide +kernel
theorem dX10_comes_31 : decode cX10_comes 31 = .ok (.aload_n 0, 1) := by decide +kernel
theorem dX10_comes_32 : decode cX10_comes 32 = .ok (.getfield 80, 3) := by decide +kernel
theorem dX10_comes_35 : decode cX10_comes 35 = .ok (.getfield 295, 3) := by decide +kernel
theorem dX10_comes_38 : decode cX10_comes 38 = .ok (.iload_n 1, 1) := by decide +kernel
theorem dX10_comes_39 : decode cX10_comes 39 = .ok (.baload, 1) := by decide +kernel
theorem dX10_comes_40 : decode cX10_comes 40 = .ok (.ifCond .ne 15, 3) := by decide +kernel
theorem dX10_comes_43 : decode cX10_comes 43 = .ok (.iload_n 2, 1) := by decide +kernel
theorem dX10_comes_44 : decode cX10_comes 44 = .ok (.iconst 2, 1) := by decide +kernel
theorem dX10_comes_45 : decode cX10_comes 45 = .ok (.if_icmp .ne 8, 3) := by decide +kernel
theorem dX10_comes_48 : decode cX10_comes 48 = .ok (.ldc 242, 2) := by decide +kernel
theorem dX10_comes_50 : decode cX10_comes 50 = .ok (.goto 4, 3) := by decide +kernel
theorem dX10_comes_53 : decode cX10_comes 53 = .ok (.iconst (-1), 1) := by decide +kernel
theorem dX10_comes_54 : decode cX10_comes 54 = .ok (.ireturn, 1) := by decide +kernel
theorem dX10_comes_55 : decode cX10_comes 55 = .ok (.iload_n 2, 1) := by decide +kernel
theorem dX10_comes_56 : decode cX10_comes 56 = .ok (.iconst 1, 1) := by decide +kernel
theorem dX10_comes_57 : decode cX10_comes 57 = .ok (.if_icmp .ne 18, 3) := by decide +kernel
theorem dX10_comes_60 : decode cX10_comes 60 = .ok (.aload_n 0, 1) := by decide +kernel
theorem dX10_comes_61 : decode cX10_comes 61 = .ok (.iload_n 1, 1) := by decide +kernel
theorem dX10_comes_62 : decode cX10_comes 62 = .ok (.invokevirtual 298, 3) := by decide +kernel
theorem dX10_comes_65 : decode cX10_comes 65 = .ok (.aload_n 0, 1) := by decide +kernel
theorem dX10_comes_66 : decode cX10_comes 66 = .ok (.getfield 80, 3) := by decide +kernel
theorem dX10_comes_69 : decode cX10_comes 69 = .ok (.iload_n 1, 1) := by decide +kernel
theorem dX10_comes_70 : decode cX10_comes 70 = .ok (.invokevirtual 301, 3) := by decide +kernel
theorem dX10_comes_73 : decode cX10_comes 73 = .ok (.iadd, 1) := by decide +kernel
theorem dX10_comes_74 : decode cX10_comes 74 = .ok (.ireturn, 1) := by decide +kernel
theorem dX10_comes_75 : decode cX10_comes 75 = .ok (.aload_n 0, 1) := by decide +kernel
theorem dX10_comes_76 : decode cX10_comes 76 = .ok (.getfield 80, 3) := by decide +kernel
theorem dX10_comes_79 : decode cX10_comes 79 = .ok (.iload_n 1, 1) := by decide +kernel
theorem dX10_comes_80 : decode cX10_comes 80 = .ok (.invokevirtual 304, 3) := by decide +kernel
theorem dX10_comes_83 : decode cX10_comes 83 = .ok (.istore_n 3, 1) := by decide +kernel
theorem dX10_comes_84 : decode cX10_comes 84 = .ok (.iload_n 2, 1) := by decide +kernel
theorem dX10_comes_85 : decode cX10_comes 85 = .ok (.ifCond .ne 7, 3) := by decide +kernel
theorem dX10_comes_88 : decode cX10_comes 88 = .ok (.iload_n 3, 1) := by decide +kernel
theorem dX10_comes_89 : decode cX10_comes 89 = .ok (.goto 9, 3) := by decide +kernel
theorem dX10_comes_92 : decode cX10_comes 92 = .ok (.aload_n 0, 1) := by decide +kernel
theorem dX10_comes_93 : decode cX10_comes 93 = .ok (.iload_n 1, 1) := by decide +kernel
theorem dX10_comes_94 : decode cX10_comes 94 = .ok (.iload_n 3, 1) := by decide +kernel
theorem dX10_comes_95 : decode cX10_comes 95 = .ok (.invokevirtual 307, 3) := by decide +kernel
theorem dX10_comes_98 : decode cX10_comes 98 = .ok (.ireturn, 1) := by decide +kernel
set_option maxRecDepth 20000 in
theorem ggX10_clear_X6_has : GoodIn wsX10_clear wsX6_has := goodIn_r _ [8, 9, 206, 207, 208, 209] (by decide +kernel) (by decide +kernel)
set_option maxRecDepth 20000 in
theorem gX10_clear_X6_has : GoodIn wsX10_clear (wsV RX10 139 RX6 yX6_has wsX6_has) := goodIn_app (goodIn_of _ (by decide +kernel)) ggX10_clear_X6_has
theorem dX10_clear_0 : decode cX10_clear 0 = .ok (.aload_n 0, 1) := by decide +kernel
theorem dX10_clear_1 : decode cX10_clear 1 = .ok (.getfield 27, 3) := by decide +kernel
theorem dX10_clear_4 : decode cX10_clear 4 = .ok (.getfield 173, 3) := by decide +kernel
theorem dX10_clear_7 : decode cX10_clear 7 = .ok (.iload_n 1, 1) := by decide +kernel
theorem dX10_clear_8 : decode cX10_clear 8 = .ok (.invokevirtual 139, 3) := by decide +kernel
theorem dX10_clear_11 : decode cX10_clear 11 = .ok (.ifCond .ne 6, 3) := by decide +kernel
theorem dX10_clear_14 : decode cX10_clear 14 = .ok (.bipush (-2), 2) := by decide +kernel
theorem dX10_clear_16 : decode cX10_clear 16 = .ok (.ireturn, 1) := by decide +kernel
theorem dX10_clear_17 : decode cX10_clear 17 = .ok (.aload_n 0, 1) := by decide +kernel
theorem dX10_clear_18 : decode cX10_clear 18 = .ok (.iload_n 1, 1) := by decide +kernel
theorem dX10_clear_19 : decode cX10_clear 19 = .ok (.invokevirtual 292, 3) := by decide +kernel
theorem dX10_clear_22 : decode cX10_clear 22 = .ok (.aload_n 0, 1) := by decide +kernel
theorem dX10_clear_23 : decode cX10_clear 23 = .ok (.getfield 80, 3) := by decide +kernel
theorem dX10_clear_26 : decode cX10_clear 26 = .ok (.iload_n 1, 1) := by decide +kernel
theorem dX10_clear_27 : decode cX10_clear 27 = .ok (.invokevirtual 271, 3) := by decide +kernel
theorem dX10_clear_30 : decode cX10_clear 30 = .ok (.ifCond .eq 14, 3) := by decide +kernel
theorem dX10_clear_33 : decode cX10_clear 33 = .ok (.aload_n 0, 1) := by decide +kernel
theorem dX10_clear_34 : decode cX10_clear 34 = .ok (.getfield 80, 3) := by decide +kernel
theorem dX10_clear_37 : decode cX10_clear 37 = .ok (.iload_n 1, 1) := by decide +kernel
theorem dX10_clear_38 : decode cX10_clear 38 = .ok (.invokevirtual 315, 3) := by decide +kernel
theorem dX10_clear_41 : decode cX10_clear 41 = .ok (.ifCond .eq 5, 3) := by decide +kernel
theorem dX10_clear_44 : decode cX10_clear 44 = .ok (.iconst (-1), 1) := by decide +kernel
theorem dX10_clear_45 : decode cX10_clear 45 = .ok (.ireturn, 1) := by decide +kernel
theorem dX10_clear_46 : decode cX10_clear 46 = .ok (.aload_n 0, 1) := by decide +kernel
theorem dX10_clear_47 : decode cX10_clear 47 = .ok (.iload_n 1, 1) := by decide +kernel
theorem dX10_clear_48 : decode cX10_clear 48 = .ok (.invokevirtual 298, 3) := by decide +kernel
theorem dX10_clear_51 : decode cX10_clear 51 = .ok (.aload_n 0, 1) := by decide +kernel
theorem dX10_clear_52 : decode cX10_clear 52 = .ok (.getfield 80, 3) := by decide +kernel
theorem dX10_clear_55 : decode cX10_clear 55 = .ok (.iload_n 1, 1) := by decide +kernel
theorem dX10_clear_56 : decode cX10_clear 56 = .ok (.invokevirtual 301, 3) := by decide +kernel
theorem dX10_clear_59 : decode cX10_clear 59 = .ok (.iadd, 1) := by decide +kernel
theorem dX10_clear_60 : decode cX10_clear 60 = .ok (.ireturn, 1) := by decide +kernel
set_option maxRecDepth 20000 in
theorem ggX10_good_X10_hasLine : GoodIn wsX10_good wsX10_hasLine := goodIn_r _ [6, 7, 8, 189, 190, 191, 192, 193, 194, 195, 196, 197, 198, 199, 200, 201, 202, 203, 204, 205, 206, 207, 208, 209, 210, 211, 212] (by decide +kernel) (by decide +kernel)
set_option maxRecDepth 20000 in
theorem gX10_good_X10_hasLine : GoodIn wsX10_good (wsV RX10 131 RX10 yX10_hasLine wsX10_hasLine) := goodIn_app (goodIn_of _ (by decide +kernel)) ggX10_good_X10_hasLine
theorem dX10_good_0 : decode cX10_good 0 = .ok (.aload_n 0, 1) := by decide +kernel
theorem dX10_good_1 : decode cX10_good 1 = .ok (.invokevirtual 131, 3) := by decide +kernel
theorem dX10_good_4 : decode cX10_good 4 = .ok (.ifCond .ne 5, 3) := by decide +kernel
theorem dX10_good_7 : decode cX10_good 7 = .ok (.iconst (-1), 1) := by decide +kernel
theorem dX10_good_8 : decode cX10_good 8 = .ok (.ireturn, 1) := by decide +kernel
theorem dX10_good_9 : decode cX10_good 9 = .ok (.aload_n 0, 1) := by decide +kernel
theorem dX10_good_10 : decode cX10_good 10 = .ok (.invokevirtual 318, 3) := by decide +kernel
theorem dX10_good_13 : decode cX10_good 13 = .ok (.aload_n 0, 1) := by decide +kernel
theorem dX10_good_14 : decode cX10_good 14 = .ok (.getfield 80, 3) := by decide +kernel
theorem dX10_good_17 : decode cX10_good 17 = .ok (.invokevirtual 321, 3) := by decide +kernel
theorem dX10_good_20 : decode cX10_good 20 = .ok (.aload_n 0, 1) := by decide +kernel
theorem dX10_good_21 : decode cX10_good 21 = .ok (.getfield 80, 3) := by decide +kernel
theorem dX10_good_24 : decode cX10_good 24 = .ok (.invokevirtual 324, 3) := by decide +kernel
theorem dX10_good_27 : decode cX10_good 27 = .ok (.invokestatic 328, 3) := by decide +kernel
theorem dX10_good_30 : decode cX10_good 30 = .ok (.ireturn, 1) := by decide +kernel
set_option maxRecDepth 20000 in
theorem ggX10_breach_X10_hasLine : GoodIn wsX10_breach wsX10_hasLine := goodIn_r _ [10, 11, 12, 258, 259, 260, 261, 262, 263, 264, 265, 266, 267, 268, 269, 270, 271, 272, 285, 286, 287, 288, 289, 290, 291, 292, 293] (by decide +kernel) (by decide +kernel)
set_option maxRecDepth 20000 in
theorem gX10_breach_X10_hasLine : GoodIn wsX10_breach (wsV RX10 131 RX10 yX10_hasLine wsX10_hasLine) := goodIn_app (goodIn_of _ (by decide +kernel)) ggX10_breach_X10_hasLine
theorem dX10_breach_0 : decode cX10_breach 0 = .ok (.aload_n 0, 1) := by decide +kernel
theorem dX10_breach_1 : decode cX10_breach 1 = .ok (.invokevirtual 131, 3) := by decide +kernel
theorem dX10_breach_4 : decode cX10_breach 4 = .ok (.ifCond .eq 12, 3) := by decide +kernel
theorem dX10_breach_7 : decode cX10_breach 7 = .ok (.iload_n 1, 1) := by decide +kernel
theorem dX10_breach_8 : decode cX10_breach 8 = .ok (.iconst 0, 1) := by decide +kernel
theorem dX10_breach_9 : decode cX10_breach 9 = .ok (.iconst 2, 1) := by decide +kernel
theorem dX10_breach_10 : decode cX10_breach 10 = .ok (.invokestatic 176, 3) := by decide +kernel
theorem dX10_breach_13 : decode cX10_breach 13 = .ok (.ifCond .ne 6, 3) := by decide +kernel
theorem dX10_breach_16 : decode cX10_breach 16 = .ok (.bipush (-2), 2) := by decide +kernel
theorem dX10_breach_18 : decode cX10_breach 18 = .ok (.ireturn, 1) := by decide +kernel
theorem dX10_breach_19 : decode cX10_breach 19 = .ok (.aload_n 0, 1) := by decide +kernel
theorem dX10_breach_20 : decode cX10_breach 20 = .ok (.invokevirtual 318, 3) := by decide +kernel
theorem dX10_breach_23 : decode cX10_breach 23 = .ok (.aload_n 0, 1) := by decide +kernel
theorem dX10_breach_24 : decode cX10_breach 24 = .ok (.getfield 80, 3) := by decide +kernel
theorem dX10_breach_27 : decode cX10_breach 27 = .ok (.invokevirtual 321, 3) := by decide +kernel
theorem dX10_breach_30 : decode cX10_breach 30 = .ok (.aload_n 0, 1) := by decide +kernel
theorem dX10_breach_31 : decode cX10_breach 31 = .ok (.getfield 89, 3) := by decide +kernel
theorem dX10_breach_34 : decode cX10_breach 34 = .ok (.invokevirtual 333, 3) := by decide +kernel
theorem dX10_breach_37 : decode cX10_breach 37 = .ok (.ifCond .ne 5, 3) := by decide +kernel
theorem dX10_breach_40 : decode cX10_breach 40 = .ok (.iconst (-1), 1) := by decide +kernel
theorem dX10_breach_41 : decode cX10_breach 41 = .ok (.ireturn, 1) := by decide +kernel
theorem dX10_breach_42 : decode cX10_breach 42 = .ok (.iload_n 1, 1) := by decide +kernel
theorem dX10_breach_43 : decode cX10_breach 43 = .ok (.ifCond .ne 11, 3) := by decide +kernel
theorem dX10_breach_46 : decode cX10_breach 46 = .ok (.aload_n 0, 1) := by decide +kernel
theorem dX10_breach_47 : decode cX10_breach 47 = .ok (.getfield 89, 3) := by decide +kernel
theorem dX10_breach_50 : decode cX10_breach 50 = .ok (.getfield 336, 3) := by decide +kernel
theorem dX10_breach_53 : decode cX10_breach 53 = .ok (.ireturn, 1) := by decide +kernel
theorem dX10_breach_54 : decode cX10_breach 54 = .ok (.iload_n 1, 1) := by decide +kernel
theorem dX10_breach_55 : decode cX10_breach 55 = .ok (.iconst 1, 1) := by decide +kernel
theorem dX10_breach_56 : decode cX10_breach 56 = .ok (.if_icmp .ne 13, 3) := by decide +kernel
theorem dX10_breach_59 : decode cX10_breach 59 = .ok (.aload_n 0, 1) := by decide +kernel
theorem dX10_breach_60 : decode cX10_breach 60 = .ok (.getfield 89, 3) := by decide +kernel
theorem dX10_breach_63 : decode cX10_breach 63 = .ok (.getfield 339, 3) := by decide +kernel
theorem dX10_breach_66 : decode cX10_breach 66 = .ok (.goto 10, 3) := by decide +kernel
theorem dX10_breach_69 : decode cX10_breach 69 = .ok (.aload_n 0, 1) := by decide +kernel
theorem dX10_breach_70 : decode cX10_breach 70 = .ok (.getfield 89, 3) := by decide +kernel
theorem dX10_breach_73 : decode cX10_breach 73 = .ok (.getfield 342, 3) := by decide +kernel
theorem dX10_breach_76 : decode cX10_breach 76 = .ok (.ireturn, 1) := by decide +kernel
set_option maxRecDepth 20000 in
theorem ggX10_mistake_X10_hasLine : GoodIn wsX10_mistake wsX10_hasLine := goodIn_r _ [9, 2, 10, 271, 272, 273, 274, 275, 276, 277, 278, 279, 280, 281, 282, 283, 284, 285, 286, 287, 288, 289, 290, 291, 292, 293, 294] (by decide +kernel) (by decide +kernel)
set_option maxRecDepth 20000 in
theorem gX10_mistake_X10_hasLine : GoodIn wsX10_mistake (wsV RX10 131 RX10 yX10_hasLine wsX10_hasLine) := goodIn_app (goodIn_of _ (by decide +kernel)) ggX10_mistake_X10_hasLine
theorem dX10_mistake_0 : decode cX10_mistake 0 = .ok (.aload_n 0, 1) := by decide +kernel
theorem dX10_mistake_1 : decode cX10_mistake 1 = .ok (.invokevirtual 131, 3) := by decide +kernel
theorem dX10_mistake_4 : decode cX10_mistake 4 = .ok (.ifCond .eq 22, 3) := by decide +kernel
theorem dX10_mistake_7 : decode cX10_mistake 7 = .ok (.iload_n 1, 1) := by decide +kernel
theorem dX10_mistake_8 : decode cX10_mistake 8 = .ok (.iconst 0, 1) := by decide +kernel
theorem dX10_mistake_9 : decode cX10_mistake 9 = .ok (.iconst 2, 1) := by decide +kernel
theorem dX10_mistake_10 : decode cX10_mistake 10 = .ok (.invokestatic 176, 3) := by decide +kernel
theorem dX10_mistake_13 : decode cX10_mistake 13 = .ok (.ifCond .eq 13, 3) := by decide +kernel
theorem dX10_mistake_16 : decode cX10_mistake 16 = .ok (.iload_n 2, 1) := by decide +kernel
theorem dX10_mistake_17 : decode cX10_mistake 17 = .ok (.iconst 0, 1) := by decide +kernel
theorem dX10_mistake_18 : decode cX10_mistake 18 = .ok (.bipush 99, 2) := by decide +kernel
theorem dX10_mistake_20 : decode cX10_mistake 20 = .ok (.invokestatic 176, 3) := by decide +kernel
theorem dX10_mistake_23 : decode cX10_mistake 23 = .ok (.ifCond .ne 6, 3) := by decide +kernel
theorem dX10_mistake_26 : decode cX10_mistake 26 = .ok (.bipush (-2), 2) := by decide +kernel
theorem dX10_mistake_28 : decode cX10_mistake 28 = .ok (.ireturn, 1) := by decide +kernel
theorem dX10_mistake_29 : decode cX10_mistake 29 = .ok (.aload_n 0, 1) := by decide +kernel
theorem dX10_mistake_30 : decode cX10_mistake 30 = .ok (.invokevirtual 318, 3) := by decide +kernel
theorem dX10_mistake_33 : decode cX10_mistake 33 = .ok (.aload_n 0, 1) := by decide +kernel
theorem dX10_mistake_34 : decode cX10_mistake 34 = .ok (.getfield 80, 3) := by decide +kernel
theorem dX10_mistake_37 : decode cX10_mistake 37 = .ok (.invokevirtual 321, 3) := by decide +kernel
theorem dX10_mistake_40 : decode cX10_mistake 40 = .ok (.iconst 0, 1) := by decide +kernel
theorem dX10_mistake_41 : decode cX10_mistake 41 = .ok (.istore_n 3, 1) := by decide +kernel
theorem dX10_mistake_42 : decode cX10_mistake 42 = .ok (.iload_n 3, 1) := by decide +kernel
theorem dX10_mistake_43 : decode cX10_mistake 43 = .ok (.aload_n 0, 1) := by decide +kernel
theorem dX10_mistake_44 : decode cX10_mistake 44 = .ok (.getfield 27, 3) := by decide +kernel
theorem dX10_mistake_47 : decode cX10_mistake 47 = .ok (.getfield 173, 3) := by decide +kernel
theorem dX10_mistake_50 : decode cX10_mistake 50 = .ok (.getfield 283, 3) := by decide +kernel
theorem dX10_mistake_53 : decode cX10_mistake 53 = .ok (.if_icmp .ge 21, 3) := by decide +kernel
theorem dX10_mistake_56 : decode cX10_mistake 56 = .ok (.aload_n 0, 1) := by decide +kernel
theorem dX10_mistake_57 : decode cX10_mistake 57 = .ok (.iload_n 3, 1) := by decide +kernel
theorem dX10_mistake_58 : decode cX10_mistake 58 = .ok (.iload_n 1, 1) := by decide +kernel
theorem dX10_mistake_59 : decode cX10_mistake 59 = .ok (.iload_n 2, 1) := by decide +kernel
theorem dX10_mistake_60 : decode cX10_mistake 60 = .ok (.invokevirtual 345, 3) := by decide +kernel
theorem dX10_mistake_63 : decode cX10_mistake 63 = .ok (.ifCond .eq 5, 3) := by decide +kernel
theorem dX10_mistake_66 : decode cX10_mistake 66 = .ok (.iload_n 3, 1) := by decide +kernel
theorem dX10_mistake_67 : decode cX10_mistake 67 = .ok (.ireturn, 1) := by decide +kernel
theorem dX10_mistake_68 : decode cX10_mistake 68 = .ok (.iinc 3 1, 3) := by decide +kernel
theorem dX10_mistake_71 : decode cX10_mistake 71 = .ok (.goto (-29), 3) := by decide +kernel
theorem dX10_mistake_74 : decode cX10_mistake 74 = .ok (.iconst (-1), 1) := by decide +kernel
theorem dX10_mistake_75 : decode cX10_mistake 75 = .ok (.ireturn, 1) := by decide +kernel
set_option maxRecDepth 20000 in
theorem ggX10_weak_X10_hasLine : GoodIn wsX10_weak wsX10_hasLine := goodIn_r _ [9, 2, 10, 271, 272, 273, 274, 275, 276, 277, 278, 279, 280, 281, 282, 283, 284, 285, 286, 287, 288, 289, 290, 291, 292, 293, 294] (by decide +kernel) (by decide +kernel)
set_option maxRecDepth 20000 in
theorem gX10_weak_X10_hasLine : GoodIn wsX10_weak (wsV RX10 131 RX10 yX10_hasLine wsX10_hasLine) := goodIn_app (goodIn_of _ (by decide +kernel)) ggX10_weak_X10_hasLine
theorem dX10_weak_0 : decode cX10_weak 0 = .ok (.aload_n 0, 1) := by decide +kernel
theorem dX10_weak_1 : decode cX10_weak 1 = .ok (.invokevirtual 131, 3) := by decide +kernel
theorem dX10_weak_4 : decode cX10_weak 4 = .ok (.ifCond .eq 13, 3) := by decide +kernel
theorem dX10_weak_7 : decode cX10_weak 7 = .ok (.iload_n 1, 1) := by decide +kernel
theorem dX10_weak_8 : decode cX10_weak 8 = .ok (.iconst 0, 1) := by decide +kernel
theorem dX10_weak_9 : decode cX10_weak 9 = .ok (.bipush 99, 2) := by decide +kernel
theorem dX10_weak_11 : decode cX10_weak 11 = .ok (.invokestatic 176, 3) := by decide +kernel
theorem dX10_weak_14 : decode cX10_weak 14 = .ok (.ifCond .ne 6, 3) := by decide +kernel
theorem dX10_weak_17 : decode cX10_weak 17 = .ok (.bipush (-2), 2) := by decide +kernel
theorem dX10_weak_19 : decode cX10_weak 19 = .ok (.ireturn, 1) := by decide +kernel
theorem dX10_weak_20 : decode cX10_weak 20 = .ok (.aload_n 0, 1) := by decide +kernel
theorem dX10_weak_21 : decode cX10_weak 21 = .ok (.invokevirtual 318, 3) := by decide +kernel
theorem dX10_weak_24 : decode cX10_weak 24 = .ok (.aload_n 0, 1) := by decide +kernel
theorem dX10_weak_25 : decode cX10_weak 25 = .ok (.getfield 80, 3) := by decide +kernel
theorem dX10_weak_28 : decode cX10_weak 28 = .ok (.invokevirtual 321, 3) := by decide +kernel
theorem dX10_weak_31 : decode cX10_weak 31 = .ok (.iconst 0, 1) := by decide +kernel
theorem dX10_weak_32 : decode cX10_weak 32 = .ok (.istore_n 2, 1) := by decide +kernel
theorem dX10_weak_33 : decode cX10_weak 33 = .ok (.iconst 0, 1) := by decide +kernel
theorem dX10_weak_34 : decode cX10_weak 34 = .ok (.istore_n 3, 1) := by decide +kernel
theorem dX10_weak_35 : decode cX10_weak 35 = .ok (.iload_n 3, 1) := by decide +kernel
theorem dX10_weak_36 : decode cX10_weak 36 = .ok (.aload_n 0, 1) := by decide +kernel
theorem dX10_weak_37 : decode cX10_weak 37 = .ok (.getfield 27, 3) := by decide +kernel
theorem dX10_weak_40 : decode cX10_weak 40 = .ok (.getfield 173, 3) := by decide +kernel
theorem dX10_weak_43 : decode cX10_weak 43 = .ok (.getfield 283, 3) := by decide +kernel
theorem dX10_weak_46 : decode cX10_weak 46 = .ok (.if_icmp .ge 38, 3) := by decide +kernel
theorem dX10_weak_49 : decode cX10_weak 49 = .ok (.iconst 0, 1) := by decide +kernel
theorem dX10_weak_50 : decode cX10_weak 50 = .ok (.istore 4, 2) := by decide +kernel
theorem dX10_weak_52 : decode cX10_weak 52 = .ok (.iload 4, 2) := by decide +kernel
theorem dX10_weak_54 : decode cX10_weak 54 = .ok (.iconst 3, 1) := by decide +kernel
theorem dX10_weak_55 : decode cX10_weak 55 = .ok (.if_icmp .ge 23, 3) := by decide +kernel
theorem dX10_weak_58 : decode cX10_weak 58 = .ok (.aload_n 0, 1) := by decide +kernel
theorem dX10_weak_59 : decode cX10_weak 59 = .ok (.iload_n 3, 1) := by decide +kernel
theorem dX10_weak_60 : decode cX10_weak 60 = .ok (.iload 4, 2) := by decide +kernel
theorem dX10_weak_62 : decode cX10_weak 62 = .ok (.iload_n 1, 1) := by decide +kernel
theorem dX10_weak_63 : decode cX10_weak 63 = .ok (.invokevirtual 345, 3) := by decide +kernel
theorem dX10_weak_66 : decode cX10_weak 66 = .ok (.ifCond .eq 6, 3) := by decide +kernel
theorem dX10_weak_69 : decode cX10_weak 69 = .ok (.iinc 2 1, 3) := by decide +kernel
theorem dX10_weak_72 : decode cX10_weak 72 = .ok (.iinc 4 1, 3) := by decide +kernel
theorem dX10_weak_75 : decode cX10_weak 75 = .ok (.goto (-23), 3) := by decide +kernel
theorem dX10_weak_78 : decode cX10_weak 78 = .ok (.iinc 3 1, 3) := by decide +kernel
theorem dX10_weak_81 : decode cX10_weak 81 = .ok (.goto (-46), 3) := by decide +kernel
theorem dX10_weak_84 : decode cX10_weak 84 = .ok (.iload_n 2, 1) := by decide +kernel
theorem dX10_weak_85 : decode cX10_weak 85 = .ok (.ireturn, 1) := by decide +kernel
set_option maxRecDepth 20000 in
theorem ggX10_start_X6_has : GoodIn wsX10_start wsX6_has := goodIn_r _ [9, 10, 284, 285, 286, 287] (by decide +kernel) (by decide +kernel)
set_option maxRecDepth 20000 in
theorem gX10_start_X6_has : GoodIn wsX10_start (wsV RX10 139 RX6 yX6_has wsX6_has) := goodIn_app (goodIn_of _ (by decide +kernel)) ggX10_start_X6_has
theorem dX10_start_0 : decode cX10_start 0 = .ok (.aload_n 0, 1) := by decide +kernel
theorem dX10_start_1 : decode cX10_start 1 = .ok (.getfield 27, 3) := by decide +kernel
theorem dX10_start_4 : decode cX10_start 4 = .ok (.getfield 193, 3) := by decide +kernel
theorem dX10_start_7 : decode cX10_start 7 = .ok (.iload_n 1, 1) := by decide +kernel
theorem dX10_start_8 : decode cX10_start 8 = .ok (.invokevirtual 139, 3) := by decide +kernel
theorem dX10_start_11 : decode cX10_start 11 = .ok (.ifCond .ne 6, 3) := by decide +kernel
theorem dX10_start_14 : decode cX10_start 14 = .ok (.bipush (-2), 2) := by decide +kernel
theorem dX10_start_16 : decode cX10_start 16 = .ok (.ireturn, 1) := by decide +kernel
theorem dX10_start_17 : decode cX10_start 17 = .ok (.aload_n 0, 1) := by decide +kernel
theorem dX10_start_18 : decode cX10_start 18 = .ok (.invokevirtual 318, 3) := by decide +kernel
theorem dX10_start_21 : decode cX10_start 21 = .ok (.aload_n 0, 1) := by decide +kernel
theorem dX10_start_22 : decode cX10_start 22 = .ok (.getfield 80, 3) := by decide +kernel
theorem dX10_start_25 : decode cX10_start 25 = .ok (.invokevirtual 321, 3) := by decide +kernel
theorem dX10_start_28 : decode cX10_start 28 = .ok (.aload_n 0, 1) := by decide +kernel
theorem dX10_start_29 : decode cX10_start 29 = .ok (.getfield 27, 3) := by decide +kernel
theorem dX10_start_32 : decode cX10_start 32 = .ok (.getfield 193, 3) := by decide +kernel
theorem dX10_start_35 : decode cX10_start 35 = .ok (.iload_n 1, 1) := by decide +kernel
theorem dX10_start_36 : decode cX10_start 36 = .ok (.iconst 0, 1) := by decide +kernel
theorem dX10_start_37 : decode cX10_start 37 = .ok (.invokevirtual 179, 3) := by decide +kernel
theorem dX10_start_40 : decode cX10_start 40 = .ok (.istore_n 2, 1) := by decide +kernel
theorem dX10_start_41 : decode cX10_start 41 = .ok (.iconst (-1), 1) := by decide +kernel
theorem dX10_start_42 : decode cX10_start 42 = .ok (.istore_n 3, 1) := by decide +kernel
theorem dX10_start_43 : decode cX10_start 43 = .ok (.iconst 0, 1) := by decide +kernel
theorem dX10_start_44 : decode cX10_start 44 = .ok (.istore 4, 2) := by decide +kernel
theorem dX10_start_46 : decode cX10_start 46 = .ok (.iconst 0, 1) := by decide +kernel
theorem dX10_start_47 : decode cX10_start 47 = .ok (.istore 5, 2) := by decide +kernel
theorem dX10_start_49 : decode cX10_start 49 = .ok (.iload 5, 2) := by decide +kernel

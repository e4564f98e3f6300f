theorem dX11_hard_7 : decode cX11_hard 7 = .ok (.iload_n 2, 1) := by decide +kernel
theorem dX11_hard_8 : decode cX11_hard 8 = .ok (.iload_n 3, 1) := by decide +kernel
theorem dX11_hard_9 : decode cX11_hard 9 = .ok (.iload 4, 2) := by decide +kernel
theorem dX11_hard_11 : decode cX11_hard 11 = .ok (.invokevirtual 355, 3) := by decide +kernel
theorem dX11_hard_14 : decode cX11_hard 14 = .ok (.ifCond .ne 6, 3) := by decide +kernel
theorem dX11_hard_17 : decode cX11_hard 17 = .ok (.bipush (-2), 2) := by decide +kernel
theorem dX11_hard_19 : decode cX11_hard 19 = .ok (.ireturn, 1) := by decide +kernel
theorem dX11_hard_20 : decode cX11_hard 20 = .ok (.iconst 0, 1) := by decide +kernel
theorem dX11_hard_21 : decode cX11_hard 21 = .ok (.istore 5, 2) := by decide +kernel
theorem dX11_hard_23 : decode cX11_hard 23 = .ok (.iload 5, 2) := by decide +kernel
theorem dX11_hard_25 : decode cX11_hard 25 = .ok (.iconst 3, 1) := by decide +kernel
theorem dX11_hard_26 : decode cX11_hard 26 = .ok (.if_icmp .gt 36, 3) := by decide +kernel
theorem dX11_hard_29 : decode cX11_hard 29 = .ok (.aload_n 0, 1) := by decide +kernel
theorem dX11_hard_30 : decode cX11_hard 30 = .ok (.bipush 16, 2) := by decide +kernel
theorem dX11_hard_32 : decode cX11_hard 32 = .ok (.iload_n 1, 1) := by decide +kernel
theorem dX11_hard_33 : decode cX11_hard 33 = .ok (.iload_n 2, 1) := by decide +kernel
theorem dX11_hard_34 : decode cX11_hard 34 = .ok (.iload 5, 2) := by decide +kernel
theorem dX11_hard_36 : decode cX11_hard 36 = .ok (.invokevirtual 359, 3) := by decide +kernel
theorem dX11_hard_39 : decode cX11_hard 39 = .ok (.aload_n 0, 1) := by decide +kernel
theorem dX11_hard_40 : decode cX11_hard 40 = .ok (.bipush 16, 2) := by decide +kernel
theorem dX11_hard_42 : decode cX11_hard 42 = .ok (.iload_n 3, 1) := by decide +kernel
theorem dX11_hard_43 : decode cX11_hard 43 = .ok (.iload 4, 2) := by decide +kernel
theorem dX11_hard_45 : decode cX11_hard 45 = .ok (.invokevirtual 348, 3) := by decide +kernel
theorem dX11_hard_48 : decode cX11_hard 48 = .ok (.ldc 171, 2) := by decide +kernel
theorem dX11_hard_50 : decode cX11_hard 50 = .ok (.if_icmp .ge 6, 3) := by decide +kernel
theorem dX11_hard_53 : decode cX11_hard 53 = .ok (.iload 5, 2) := by decide +kernel
theorem dX11_hard_55 : decode cX11_hard 55 = .ok (.ireturn, 1) := by decide +kernel
theorem dX11_hard_56 : decode cX11_hard 56 = .ok (.iinc 5 1, 3) := by decide +kernel
theorem dX11_hard_59 : decode cX11_hard 59 = .ok (.goto (-36), 3) := by decide +kernel
theorem dX11_hard_62 : decode cX11_hard 62 = .ok (.iconst (-1), 1) := by decide +kernel
theorem dX11_hard_63 : decode cX11_hard 63 = .ok (.ireturn, 1) := by decide +kernel
set_option maxRecDepth 20000 in
theorem ggX11_quick_X11_isHandled : GoodIn wsX11_quick wsX11_isHandled := goodIn_r _ [8, 9, 10, 11, 7, 12, 13, 14, 15, 16, 17, 18, 19, 20, 21, 22, 23, 24, 25, 26, 27, 28, 29, 30, 31, 32, 33, 34, 77, 78, 79, 80, 81, 82, 83, 84, 85, 86, 87, 88, 89, 90, 91, 92, 93, 94, 95, 96, 97, 98, 99, 100, 101, 102, 103, 104, 105, 106, 107, 108, 109, 110, 111, 112, 113, 114, 115, 116, 117, 118, 119, 120, 121, 122, 123, 124, 125, 126, 127, 128, 129, 130, 131, 132, 133, 134] (by decide +kernel) (by decide +kernel)
set_option maxRecDepth 20000 in
theorem gX11_quick_X11_isHandled : GoodIn wsX11_quick (wsV RX11 355 RX11 yX11_isHandled wsX11_isHandled) := goodIn_app (goodIn_of _ (by decide +kernel)) ggX11_quick_X11_isHandled
theorem dX11_quick_0 : decode cX11_quick 0 = .ok (.aload_n 0, 1) := by decide +kernel
theorem dX11_quick_1 : decode cX11_quick 1 = .ok (.iconst 0, 1) := by decide +kernel
theorem dX11_quick_2 : decode cX11_quick 2 = .ok (.putfield 120, 3) := by decide +kernel
theorem dX11_quick_5 : decode cX11_quick 5 = .ok (.aload_n 0, 1) := by decide +kernel
theorem dX11_quick_6 : decode cX11_quick 6 = .ok (.iload_n 1, 1) := by decide +kernel
theorem dX11_quick_7 : decode cX11_quick 7 = .ok (.iload_n 2, 1) := by decide +kernel
theorem dX11_quick_8 : decode cX11_quick 8 = .ok (.iload_n 3, 1) := by decide +kernel
theorem dX11_quick_9 : decode cX11_quick 9 = .ok (.iload 4, 2) := by decide +kernel
theorem dX11_quick_11 : decode cX11_quick 11 = .ok (.invokevirtual 355, 3) := by decide +kernel
theorem dX11_quick_14 : decode cX11_quick 14 = .ok (.ifCond .ne 6, 3) := by decide +kernel
theorem dX11_quick_17 : decode cX11_quick 17 = .ok (.bipush (-2), 2) := by decide +kernel
theorem dX11_quick_19 : decode cX11_quick 19 = .ok (.ireturn, 1) := by decide +kernel
theorem dX11_quick_20 : decode cX11_quick 20 = .ok (.aload_n 0, 1) := by decide +kernel
theorem dX11_quick_21 : decode cX11_quick 21 = .ok (.iconst 1, 1) := by decide +kernel
theorem dX11_quick_22 : decode cX11_quick 22 = .ok (.putfield 334, 3) := by decide +kernel
theorem dX11_quick_25 : decode cX11_quick 25 = .ok (.aload_n 0, 1) := by decide +kernel
theorem dX11_quick_26 : decode cX11_quick 26 = .ok (.bipush 16, 2) := by decide +kernel
theorem dX11_quick_28 : decode cX11_quick 28 = .ok (.iload_n 1, 1) := by decide +kernel
theorem dX11_quick_29 : decode cX11_quick 29 = .ok (.iload_n 2, 1) := by decide +kernel
theorem dX11_quick_30 : decode cX11_quick 30 = .ok (.iconst 3, 1) := by decide +kernel
theorem dX11_quick_31 : decode cX11_quick 31 = .ok (.invokevirtual 359, 3) := by decide +kernel
theorem dX11_quick_34 : decode cX11_quick 34 = .ok (.aload_n 0, 1) := by decide +kernel
theorem dX11_quick_35 : decode cX11_quick 35 = .ok (.iconst 0, 1) := by decide +kernel
theorem dX11_quick_36 : decode cX11_quick 36 = .ok (.putfield 334, 3) := by decide +kernel
theorem dX11_quick_39 : decode cX11_quick 39 = .ok (.aload_n 0, 1) := by decide +kernel
theorem dX11_quick_40 : decode cX11_quick 40 = .ok (.bipush 16, 2) := by decide +kernel
theorem dX11_quick_42 : decode cX11_quick 42 = .ok (.iload_n 3, 1) := by decide +kernel
theorem dX11_quick_43 : decode cX11_quick 43 = .ok (.iload 4, 2) := by decide +kernel
theorem dX11_quick_45 : decode cX11_quick 45 = .ok (.invokevirtual 348, 3) := by decide +kernel
theorem dX11_quick_48 : decode cX11_quick 48 = .ok (.istore 5, 2) := by decide +kernel
theorem dX11_quick_50 : decode cX11_quick 50 = .ok (.iload 5, 2) := by decide +kernel
theorem dX11_quick_52 : decode cX11_quick 52 = .ok (.ldc 171, 2) := by decide +kernel
theorem dX11_quick_54 : decode cX11_quick 54 = .ok (.if_icmp .lt 7, 3) := by decide +kernel
theorem dX11_quick_57 : decode cX11_quick 57 = .ok (.iconst (-1), 1) := by decide +kernel
theorem dX11_quick_58 : decode cX11_quick 58 = .ok (.goto 5, 3) := by decide +kernel
theorem dX11_quick_61 : decode cX11_quick 61 = .ok (.iload 5, 2) := by decide +kernel
theorem dX11_quick_63 : decode cX11_quick 63 = .ok (.ireturn, 1) := by decide +kernel
set_option maxRecDepth 20000 in
theorem ggX11_jolt_X11_isHandled : GoodIn wsX11_jolt wsX11_isHandled := goodIn_r _ [8, 9, 10, 11, 7, 12, 13, 14, 15, 16, 17, 18, 19, 20, 21, 22, 23, 24, 25, 26, 27, 28, 29, 30, 31, 32, 33, 34, 77, 78, 79, 80, 81, 82, 83, 84, 85, 86, 87, 88, 89, 90, 91, 92, 93, 94, 95, 96, 97, 98, 99, 100, 101, 102, 103, 104, 105, 106, 107, 108, 109, 110, 111, 112, 113, 114, 115, 116, 117, 118, 119, 120, 121, 122, 123, 124, 125, 126, 127, 128, 129, 130, 131, 132, 133, 134] (by decide +kernel) (by decide +kernel)
set_option maxRecDepth 20000 in
theorem gX11_jolt_X11_isHandled : GoodIn wsX11_jolt (wsV RX11 355 RX11 yX11_isHandled wsX11_isHandled) := goodIn_app (goodIn_of _ (by decide +kernel)) ggX11_jolt_X11_isHandled
theorem dX11_jolt_0 : decode cX11_jolt 0 = .ok (.aload_n 0, 1) := by decide +kernel
theorem dX11_jolt_1 : decode cX11_jolt 1 = .ok (.iconst 0, 1) := by decide +kernel
theorem dX11_jolt_2 : decode cX11_jolt 2 = .ok (.putfield 120, 3) := by decide +kernel
theorem dX11_jolt_5 : decode cX11_jolt 5 = .ok (.aload_n 0, 1) := by decide +kernel
theorem dX11_jolt_6 : decode cX11_jolt 6 = .ok (.iload_n 1, 1) := by decide +kernel
theorem dX11_jolt_7 : decode cX11_jolt 7 = .ok (.iload_n 2, 1) := by decide +kernel
theorem dX11_jolt_8 : decode cX11_jolt 8 = .ok (.iload_n 3, 1) := by decide +kernel
theorem dX11_jolt_9 : decode cX11_jolt 9 = .ok (.iload 4, 2) := by decide +kernel
theorem dX11_jolt_11 : decode cX11_jolt 11 = .ok (.invokevirtual 355, 3) := by decide +kernel
theorem dX11_jolt_14 : decode cX11_jolt 14 = .ok (.ifCond .ne 6, 3) := by decide +kernel
theorem dX11_jolt_17 : decode cX11_jolt 17 = .ok (.bipush (-2), 2) := by decide +kernel
theorem dX11_jolt_19 : decode cX11_jolt 19 = .ok (.ireturn, 1) := by decide +kernel
theorem dX11_jolt_20 : decode cX11_jolt 20 = .ok (.iconst (-1), 1) := by decide +kernel
theorem dX11_jolt_21 : decode cX11_jolt 21 = .ok (.istore 5, 2) := by decide +kernel
theorem dX11_jolt_23 : decode cX11_jolt 23 = .ok (.iconst 0, 1) := by decide +kernel
theorem dX11_jolt_24 : decode cX11_jolt 24 = .ok (.istore 6, 2) := by decide +kernel
theorem dX11_jolt_26 : decode cX11_jolt 26 = .ok (.iload 6, 2) := by decide +kernel
theorem dX11_jolt_28 : decode cX11_jolt 28 = .ok (.bipush 15, 2) := by decide +kernel
theorem dX11_jolt_30 : decode cX11_jolt 30 = .ok (.if_icmp .gt 52, 3) := by decide +kernel
theorem dX11_jolt_33 : decode cX11_jolt 33 = .ok (.iload 5, 2) := by decide +kernel
theorem dX11_jolt_35 : decode cX11_jolt 35 = .ok (.iconst (-1), 1) := by decide +kernel
theorem dX11_jolt_36 : decode cX11_jolt 36 = .ok (.if_icmp .ne 46, 3) := by decide +kernel
theorem dX11_jolt_39 : decode cX11_jolt 39 = .ok (.aload_n 0, 1) := by decide +kernel
theorem dX11_jolt_40 : decode cX11_jolt 40 = .ok (.iload 6, 2) := by decide +kernel
theorem dX11_jolt_42 : decode cX11_jolt 42 = .ok (.putfield 72, 3) := by decide +kernel
theorem dX11_jolt_45 : decode cX11_jolt 45 = .ok (.aload_n 0, 1) := by decide +kernel
theorem dX11_jolt_46 : decode cX11_jolt 46 = .ok (.bipush 16, 2) := by decide +kernel
theorem dX11_jolt_48 : decode cX11_jolt 48 = .ok (.iload_n 1, 1) := by decide +kernel
theorem dX11_jolt_49 : decode cX11_jolt 49 = .ok (.iload_n 2, 1) := by decide +kernel
theorem dX11_jolt_50 : decode cX11_jolt 50 = .ok (.iconst 3, 1) := by decide +kernel
theorem dX11_jolt_51 : decode cX11_jolt 51 = .ok (.invokevirtual 359, 3) := by decide +kernel
theorem dX11_jolt_54 : decode cX11_jolt 54 = .ok (.aload_n 0, 1) := by decide +kernel
theorem dX11_jolt_55 : decode cX11_jolt 55 = .ok (.bipush 16, 2) := by decide +kernel
theorem dX11_jolt_57 : decode cX11_jolt 57 = .ok (.iload_n 3, 1) := by decide +kernel
theorem dX11_jolt_58 : decode cX11_jolt 58 = .ok (.iload 4, 2) := by decide +kernel
theorem dX11_jolt_60 : decode cX11_jolt 60 = .ok (.invokevirtual 348, 3) := by decide +kernel
theorem dX11_jolt_63 : decode cX11_jolt 63 = .ok (.ldc 171, 2) := by decide +kernel
theorem dX11_jolt_65 : decode cX11_jolt 65 = .ok (.if_icmp .ge 8, 3) := by decide +kernel
theorem dX11_jolt_68 : decode cX11_jolt 68 = .ok (.iload 6, 2) := by decide +kernel
theorem dX11_jolt_70 : decode cX11_jolt 70 = .ok (.goto 4, 3) := by decide +kernel
theorem dX11_jolt_73 : decode cX11_jolt 73 = .ok (.iconst (-1), 1) := by decide +kernel
theorem dX11_jolt_74 : decode cX11_jolt 74 = .ok (.istore 5, 2) := by decide +kernel
theorem dX11_jolt_76 : decode cX11_jolt 76 = .ok (.iinc 6 1, 3) := by decide +kernel
theorem dX11_jolt_79 : decode cX11_jolt 79 = .ok (.goto (-53), 3) := by decide +kernel
theorem dX11_jolt_82 : decode cX11_jolt 82 = .ok (.aload_n 0, 1) := by decide +kernel
theorem dX11_jolt_83 : decode cX11_jolt 83 = .ok (.bipush 15, 2) := by decide +kernel
theorem dX11_jolt_85 : decode cX11_jolt 85 = .ok (.putfield 72, 3) := by decide +kernel
theorem dX11_jolt_88 : decode cX11_jolt 88 = .ok (.iload 5, 2) := by decide +kernel
theorem dX11_jolt_90 : decode cX11_jolt 90 = .ok (.ireturn, 1) := by decide +kernel
set_option maxRecDepth 20000 in
theorem ggX11_stands_X11_isMoving : GoodIn wsX11_stands wsX11_isMoving := goodIn_r _ [9, 10, 11, 12, 13, 8, 14, 15, 16, 17, 18, 19, 20, 21, 22, 3, 23, 24, 25, 26, 63, 64, 65, 66, 67, 68, 69, 70, 71, 72, 73, 74, 75, 76, 77, 78, 79, 80, 81, 82, 83, 84, 85, 86, 87, 88, 89, 90, 91, 92, 93, 94, 95, 96, 97, 98, 99, 100, 101, 102, 103, 104, 105, 106, 107, 108, 109, 110, 111, 112, 113, 114, 115, 116, 117, 118, 119, 120] (by decide +kernel) (by decide +kernel)
set_option maxRecDepth 20000 in
theorem gX11_stands_X11_isMoving : GoodIn wsX11_stands (wsV RX11 324 RX11 yX11_isMoving wsX11_isMoving) := goodIn_app (goodIn_of _ (by decide +kernel)) ggX11_stands_X11_isMoving
theorem dX11_stands_0 : decode cX11_stands 0 = .ok (.aload_n 0, 1) := by decide +kernel
theorem dX11_stands_1 : decode cX11_stands 1 = .ok (.iconst 0, 1) := by decide +kernel
theorem dX11_stands_2 : decode cX11_stands 2 = .ok (.putfield 120, 3) := by decide +kernel
theorem dX11_stands_5 : decode cX11_stands 5 = .ok (.aload_n 0, 1) := by decide +kernel
theorem dX11_stands_6 : decode cX11_stands 6 = .ok (.iload_n 1, 1) := by decide +kernel
theorem dX11_stands_7 : decode cX11_stands 7 = .ok (.iload_n 2, 1) := by decide +kernel
theorem dX11_stands_8 : decode cX11_stands 8 = .ok (.iload_n 3, 1) := by decide +kernel
theorem dX11_stands_9 : decode cX11_stands 9 = .ok (.invokevirtual 324, 3) := by decide +kernel
theorem dX11_stands_12 : decode cX11_stands 12 = .ok (.ifCond .eq 16, 3) := by decide +kernel
theorem dX11_stands_15 : decode cX11_stands 15 = .ok (.iload 4, 2) := by decide +kernel
theorem dX11_stands_17 : decode cX11_stands 17 = .ok (.i2l, 1) := by decide +kernel
theorem dX11_stands_18 : decode cX11_stands 18 = .ok (.lconst 0, 1) := by decide +kernel
theorem dX11_stands_19 : decode cX11_stands 19 = .ok (.ldc2_w 296, 3) := by decide +kernel
theorem dX11_stands_22 : decode cX11_stands 22 = .ok (.invokestatic 125, 3) := by decide +kernel
theorem dX11_stands_25 : decode cX11_stands 25 = .ok (.ifCond .ne 6, 3) := by decide +kernel
theorem dX11_stands_28 : decode cX11_stands 28 = .ok (.bipush (-2), 2) := by decide +kernel
theorem dX11_stands_30 : decode cX11_stands 30 = .ok (.ireturn, 1) := by decide +kernel
theorem dX11_stands_31 : decode cX11_stands 31 = .ok (.aload_n 0, 1) := by decide +kernel
theorem dX11_stands_32 : decode cX11_stands 32 = .ok (.iload_n 1, 1) := by decide +kernel
theorem dX11_stands_33 : decode cX11_stands 33 = .ok (.iload_n 2, 1) := by decide +kernel
theorem dX11_stands_34 : decode cX11_stands 34 = .ok (.iload_n 3, 1) := by decide +kernel
theorem dX11_stands_35 : decode cX11_stands 35 = .ok (.invokevirtual 376, 3) := by decide +kernel
theorem dX11_stands_38 : decode cX11_stands 38 = .ok (.aload_n 0, 1) := by decide +kernel
theorem dX11_stands_39 : decode cX11_stands 39 = .ok (.invokevirtual 380, 3) := by decide +kernel
theorem dX11_stands_42 : decode cX11_stands 42 = .ok (.iconst 0, 1) := by decide +kernel
theorem dX11_stands_43 : decode cX11_stands 43 = .ok (.istore 5, 2) := by decide +kernel
theorem dX11_stands_45 : decode cX11_stands 45 = .ok (.iload 5, 2) := by decide +kernel
theorem dX11_stands_47 : decode cX11_stands 47 = .ok (.aload_n 0, 1) := by decide +kernel
theorem dX11_stands_48 : decode cX11_stands 48 = .ok (.getfield 34, 3) := by decide +kernel
theorem dX11_stands_51 : decode cX11_stands 51 = .ok (.iconst 0, 1) := by decide +kernel
theorem dX11_stands_52 : decode cX11_stands 52 = .ok (.iaload, 1) := by decide +kernel
theorem dX11_stands_53 : decode cX11_stands 53 = .ok (.if_icmp .gt 25, 3) := by decide +kernel
theorem dX11_stands_56 : decode cX11_stands 56 = .ok (.aload_n 0, 1) := by decide +kernel
theorem dX11_stands_57 : decode cX11_stands 57 = .ok (.getfield 78, 3) := by decide +kernel
theorem dX11_stands_60 : decode cX11_stands 60 = .ok (.iload 5, 2) := by decide +kernel
theorem dX11_stands_62 : decode cX11_stands 62 = .ok (.baload, 1) := by decide +kernel
theorem dX11_stands_63 : decode cX11_stands 63 = .ok (.ifCond .eq 9, 3) := by decide +kernel
theorem dX11_stands_66 : decode cX11_stands 66 = .ok (.aload_n 0, 1) := by decide +kernel
theorem dX11_stands_67 : decode cX11_stands 67 = .ok (.iload 5, 2) := by decide +kernel
theorem dX11_stands_69 : decode cX11_stands 69 = .ok (.invokevirtual 383, 3) := by decide +kernel
theorem dX11_stands_72 : decode cX11_stands 72 = .ok (.iinc 5 1, 3) := by decide +kernel
theorem dX11_stands_75 : decode cX11_stands 75 = .ok (.goto (-30), 3) := by decide +kernel
theorem dX11_stands_78 : decode cX11_stands 78 = .ok (.aload_n 0, 1) := by decide +kernel
theorem dX11_stands_79 : decode cX11_stands 79 = .ok (.iload 4, 2) := by decide +kernel
theorem dX11_stands_81 : decode cX11_stands 81 = .ok (.invokevirtual 386, 3) := by decide +kernel
theorem dX11_stands_84 : decode cX11_stands 84 = .ok (.ireturn, 1) := by decide +kernel
set_option maxRecDepth 20000 in
theorem ggX11_posts_X11_isKind : GoodIn wsX11_posts wsX11_isKind := goodIn_r _ [10, 11, 12, 13, 9, 14, 77, 78, 79, 80, 81, 82, 83, 84, 85, 86, 87, 88, 89, 90, 91, 92, 93, 94, 95, 96, 97, 98, 99, 100, 101, 102, 103, 104, 105, 106, 107, 108, 109, 110, 111, 112, 113, 114, 115, 116, 117, 118, 119, 120, 121, 122, 123, 124, 125, 126, 127, 128, 129, 130, 131, 132, 133, 134] (by decide +kernel) (by decide +kernel)
set_option maxRecDepth 20000 in
theorem gX11_posts_X11_isKind : GoodIn wsX11_posts (wsV RX11 319 RX11 yX11_isKind wsX11_isKind) := goodIn_app (goodIn_of _ (by decide +kernel)) ggX11_posts_X11_isKind
theorem dX11_posts_0 : decode cX11_posts 0 = .ok (.aload_n 0, 1) := by decide +kernel
theorem dX11_posts_1 : decode cX11_posts 1 = .ok (.iconst 0, 1) := by decide +kernel
theorem dX11_posts_2 : decode cX11_posts 2 = .ok (.putfield 120, 3) := by decide +kernel
theorem dX11_posts_5 : decode cX11_posts 5 = .ok (.aload_n 0, 1) := by decide +kernel
theorem dX11_posts_6 : decode cX11_posts 6 = .ok (.iload_n 1, 1) := by decide +kernel
theorem dX11_posts_7 : decode cX11_posts 7 = .ok (.invokevirtual 319, 3) := by decide +kernel
theorem dX11_posts_10 : decode cX11_posts 10 = .ok (.ifCond .eq 36, 3) := by decide +kernel
theorem dX11_posts_13 : decode cX11_posts 13 = .ok (.aload_n 0, 1) := by decide +kernel
theorem dX11_posts_14 : decode cX11_posts 14 = .ok (.iload_n 2, 1) := by decide +kernel
theorem dX11_posts_15 : decode cX11_posts 15 = .ok (.invokevirtual 352, 3) := by decide +kernel
theorem dX11_posts_18 : decode cX11_posts 18 = .ok (.ifCond .eq 28, 3) := by decide +kernel
theorem dX11_posts_21 : decode cX11_posts 21 = .ok (.iload_n 3, 1) := by decide +kernel
theorem dX11_posts_22 : decode cX11_posts 22 = .ok (.i2l, 1) := by decide +kernel
theorem dX11_posts_23 : decode cX11_posts 23 = .ok (.lconst 1, 1) := by decide +kernel
theorem dX11_posts_24 : decode cX11_posts 24 = .ok (.ldc2_w 322, 3) := by decide +kernel
theorem dX11_posts_27 : decode cX11_posts 27 = .ok (.invokestatic 125, 3) := by decide +kernel
theorem dX11_posts_30 : decode cX11_posts 30 = .ok (.ifCond .eq 16, 3) := by decide +kernel
theorem dX11_posts_33 : decode cX11_posts 33 = .ok (.iload 4, 2) := by decide +kernel
theorem dX11_posts_35 : decode cX11_posts 35 = .ok (.i2l, 1) := by decide +kernel
theorem dX11_posts_36 : decode cX11_posts 36 = .ok (.lconst 0, 1) := by decide +kernel
theorem dX11_posts_37 : decode cX11_posts 37 = .ok (.ldc2_w 296, 3) := by decide +kernel
theorem dX11_posts_40 : decode cX11_posts 40 = .ok (.invokestatic 125, 3) := by decide +kernel
theorem dX11_posts_43 : decode cX11_posts 43 = .ok (.ifCond .ne 6, 3) := by decide +kernel
theorem dX11_posts_46 : decode cX11_posts 46 = .ok (.bipush (-2), 2) := by decide +kernel
theorem dX11_posts_48 : decode cX11_posts 48 = .ok (.ireturn, 1) := by decide +kernel
theorem dX11_posts_49 : decode cX11_posts 49 = .ok (.aload_n 0, 1) := by decide +kernel
theorem dX11_posts_50 : decode cX11_posts 50 = .ok (.bipush 16, 2) := by decide +kernel
theorem dX11_posts_52 : decode cX11_posts 52 = .ok (.iload_n 1, 1) := by decide +kernel
theorem dX11_posts_53 : decode cX11_posts 53 = .ok (.iload_n 2, 1) := by decide +kernel
theorem dX11_posts_54 : decode cX11_posts 54 = .ok (.iconst 3, 1) := by decide +kernel
theorem dX11_posts_55 : decode cX11_posts 55 = .ok (.invokevirtual 359, 3) := by decide +kernel
theorem dX11_posts_58 : decode cX11_posts 58 = .ok (.aload_n 0, 1) := by decide +kernel
theorem dX11_posts_59 : decode cX11_posts 59 = .ok (.invokevirtual 380, 3) := by decide +kernel
theorem dX11_posts_62 : decode cX11_posts 62 = .ok (.iconst 0, 1) := by decide +kernel
theorem dX11_posts_63 : decode cX11_posts 63 = .ok (.istore 5, 2) := by decide +kernel
theorem dX11_posts_65 : decode cX11_posts 65 = .ok (.iload 5, 2) := by decide +kernel
theorem dX11_posts_67 : decode cX11_posts 67 = .ok (.aload_n 0, 1) := by decide +kernel
theorem dX11_posts_68 : decode cX11_posts 68 = .ok (.getfield 34, 3) := by decide +kernel
theorem dX11_posts_71 : decode cX11_posts 71 = .ok (.iconst 0, 1) := by decide +kernel
theorem dX11_posts_72 : decode cX11_posts 72 = .ok (.iaload, 1) := by decide +kernel
theorem dX11_posts_73 : decode cX11_posts 73 = .ok (.if_icmp .gt 29, 3) := by decide +kernel
theorem dX11_posts_76 : decode cX11_posts 76 = .ok (.aload_n 0, 1) := by decide +kernel
theorem dX11_posts_77 : decode cX11_posts 77 = .ok (.bipush 16, 2) := by decide +kernel
theorem dX11_posts_79 : decode cX11_posts 79 = .ok (.iload 5, 2) := by decide +kernel
theorem dX11_posts_81 : decode cX11_posts 81 = .ok (.iload_n 3, 1) := by decide +kernel
theorem dX11_posts_82 : decode cX11_posts 82 = .ok (.invokevirtual 348, 3) := by decide +kernel
theorem dX11_posts_85 : decode cX11_posts 85 = .ok (.ldc 171, 2) := by decide +kernel
theorem dX11_posts_87 : decode cX11_posts 87 = .ok (.if_icmp .ge 9, 3) := by decide +kernel
theorem dX11_posts_90 : decode cX11_posts 90 = .ok (.aload_n 0, 1) := by decide +kernel
theorem dX11_posts_91 : decode cX11_posts 91 = .ok (.iload 5, 2) := by decide +kernel
theorem dX11_posts_93 : decode cX11_posts 93 = .ok (.invokevirtual 383, 3) := by decide +kernel
theorem dX11_posts_96 : decode cX11_posts 96 = .ok (.iinc 5 1, 3) := by decide +kernel
theorem dX11_posts_99 : decode cX11_posts 99 = .ok (.goto (-34), 3) := by decide +kernel
theorem dX11_posts_102 : decode cX11_posts 102 = .ok (.aload_n 0, 1) := by decide +kernel
theorem dX11_posts_103 : decode cX11_posts 103 = .ok (.iload 4, 2) := by decide +kernel
theorem dX11_posts_105 : decode cX11_posts 105 = .ok (.invokevirtual 386, 3) := by decide +kernel
theorem dX11_posts_108 : decode cX11_posts 108 = .ok (.ireturn, 1) := by decide +kernel
set_option maxRecDepth 20000 in
theorem ggX11_speeds_X11_isKind : GoodIn wsX11_speeds wsX11_isKind := goodIn_r _ [7, 8, 9, 10, 6, 11, 68, 69, 70, 71, 72, 73, 74, 75, 76, 77, 78, 79, 80, 81, 82, 83, 84, 85, 86, 87, 88, 89, 90, 91, 92, 93, 94, 95, 96, 97, 98, 99, 100, 101, 102, 103, 104, 105, 106, 107, 108, 109, 110, 111, 112, 113, 114, 115, 116, 117, 118, 119, 120, 121, 122, 123, 124, 125] (by decide +kernel) (by decide +kernel)
set_option maxRecDepth 20000 in
theorem gX11_speeds_X11_isKind : GoodIn wsX11_speeds (wsV RX11 319 RX11 yX11_isKind wsX11_isKind) := goodIn_app (goodIn_of _ (by decide +kernel)) ggX11_speeds_X11_isKind
theorem dX11_speeds_0 : decode cX11_speeds 0 = .ok (.aload_n 0, 1) := by decide +kernel
theorem dX11_speeds_1 : decode cX11_speeds 1 = .ok (.iconst 0, 1) := by decide +kernel
theorem dX11_speeds_2 : decode cX11_speeds 2 = .ok (.putfield 120, 3) := by decide +kernel
theorem dX11_speeds_5 : decode cX11_speeds 5 = .ok (.aload_n 0, 1) := by decide +kernel
theorem dX11_speeds_6 : decode cX11_speeds 6 = .ok (.iload_n 1, 1) := by decide +kernel
theorem dX11_speeds_7 : decode cX11_speeds 7 = .ok (.invokevirtual 319, 3) := by decide +kernel
theorem dX11_speeds_10 : decode cX11_speeds 10 = .ok (.ifCond .eq 19, 3) := by decide +kernel
theorem dX11_speeds_13 : decode cX11_speeds 13 = .ok (.aload_n 0, 1) := by decide +kernel
theorem dX11_speeds_14 : decode cX11_speeds 14 = .ok (.iload_n 2, 1) := by decide +kernel
theorem dX11_speeds_15 : decode cX11_speeds 15 = .ok (.invokevirtual 352, 3) := by decide +kernel
theorem dX11_speeds_18 : decode cX11_speeds 18 = .ok (.ifCond .eq 11, 3) := by decide +kernel
theorem dX11_speeds_21 : decode cX11_speeds 21 = .ok (.aload_n 0, 1) := by decide +kernel
theorem dX11_speeds_22 : decode cX11_speeds 22 = .ok (.iload_n 3, 1) := by decide +kernel
theorem dX11_speeds_23 : decode cX11_speeds 23 = .ok (.invokevirtual 293, 3) := by decide +kernel
theorem dX11_speeds_26 : decode cX11_speeds 26 = .ok (.ifCond .ne 6, 3) := by decide +kernel
theorem dX11_speeds_29 : decode cX11_speeds 29 = .ok (.bipush (-2), 2) := by decide +kernel
theorem dX11_speeds_31 : decode cX11_speeds 31 = .ok (.ireturn, 1) := by decide +kernel
theorem dX11_speeds_32 : decode cX11_speeds 32 = .ok (.aload_n 0, 1) := by decide +kernel
theorem dX11_speeds_33 : decode cX11_speeds 33 = .ok (.bipush 16, 2) := by decide +kernel
theorem dX11_speeds_35 : decode cX11_speeds 35 = .ok (.iload_n 1, 1) := by decide +kernel
theorem dX11_speeds_36 : decode cX11_speeds 36 = .ok (.iload_n 2, 1) := by decide +kernel
theorem dX11_speeds_37 : decode cX11_speeds 37 = .ok (.iconst 3, 1) := by decide +kernel
theorem dX11_speeds_38 : decode cX11_speeds 38 = .ok (.invokevirtual 359, 3) := by decide +kernel
theorem dX11_speeds_41 : decode cX11_speeds 41 = .ok (.iconst 0, 1) := by decide +kernel
theorem dX11_speeds_42 : decode cX11_speeds 42 = .ok (.istore 4, 2) := by decide +kernel
theorem dX11_speeds_44 : decode cX11_speeds 44 = .ok (.iconst 1, 1) := by decide +kernel
theorem dX11_speeds_45 : decode cX11_speeds 45 = .ok (.istore 5, 2) := by decide +kernel
theorem dX11_speeds_47 : decode cX11_speeds 47 = .ok (.iload 5, 2) := by decide +kernel
theorem dX11_speeds_49 : decode cX11_speeds 49 = .ok (.bipush 15, 2) := by decide +kernel
theorem dX11_speeds_51 : decode cX11_speeds 51 = .ok (.if_icmp .gt 36, 3) := by decide +kernel
theorem dX11_speeds_54 : decode cX11_speeds 54 = .ok (.iload 4, 2) := by decide +kernel
theorem dX11_speeds_56 : decode cX11_speeds 56 = .ok (.aload_n 0, 1) := by decide +kernel
theorem dX11_speeds_57 : decode cX11_speeds 57 = .ok (.bipush 16, 2) := by decide +kernel
theorem dX11_speeds_59 : decode cX11_speeds 59 = .ok (.iload_n 3, 1) := by decide +kernel
theorem dX11_speeds_60 : decode cX11_speeds 60 = .ok (.iload 5, 2) := by decide +kernel
theorem dX11_speeds_62 : decode cX11_speeds 62 = .ok (.invokevirtual 348, 3) := by decide +kernel
theorem dX11_speeds_65 : decode cX11_speeds 65 = .ok (.ldc 171, 2) := by decide +kernel
theorem dX11_speeds_67 : decode cX11_speeds 67 = .ok (.if_icmp .ge 10, 3) := by decide +kernel
theorem dX11_speeds_70 : decode cX11_speeds 70 = .ok (.iconst 1, 1) := by decide +kernel
theorem dX11_speeds_71 : decode cX11_speeds 71 = .ok (.iload 5, 2) := by decide +kernel
theorem dX11_speeds_73 : decode cX11_speeds 73 = .ok (.ishl, 1) := by decide +kernel
theorem dX11_speeds_74 : decode cX11_speeds 74 = .ok (.goto 4, 3) := by decide +kernel
theorem dX11_speeds_77 : decode cX11_speeds 77 = .ok (.iconst 0, 1) := by decide +kernel
theorem dX11_speeds_78 : decode cX11_speeds 78 = .ok (.ior, 1) := by decide +kernel
theorem dX11_speeds_79 : decode cX11_speeds 79 = .ok (.istore 4, 2) := by decide +kernel
theorem dX11_speeds_81 : decode cX11_speeds 81 = .ok (.iinc 5 1, 3) := by decide +kernel
theorem dX11_speeds_84 : decode cX11_speeds 84 = .ok (.goto (-37), 3) := by decide +kernel
theorem dX11_speeds_87 : decode cX11_speeds 87 = .ok (.iload 4, 2) := by decide +kernel
theorem dX11_speeds_89 : decode cX11_speeds 89 = .ok (.ireturn, 1) := by decide +kernel
set_option maxRecDepth 20000 in
theorem ggX11_wetter_X11_isHandled : GoodIn wsX11_wetter wsX11_isHandled := goodIn_r _ [8, 9, 10, 11, 7, 12, 13, 14, 15, 16, 17, 18, 19, 20, 21, 22, 23, 24, 25, 26, 27, 28, 29, 30, 31, 32, 33, 34, 77, 78, 79, 80, 81, 82, 83, 84, 85, 86, 87, 88, 89, 90, 91, 92, 93, 94, 95, 96, 97, 98, 99, 100, 101, 102, 103, 104, 105, 106, 107, 108, 109, 110, 111, 112, 113, 114, 115, 116, 117, 118, 119, 120, 121, 122, 123, 124, 125, 126, 127, 128, 129, 130, 131, 132, 133, 134] (by decide +kernel) (by decide +kernel)
set_option maxRecDepth 20000 in
theorem gX11_wetter_X11_isHandled : GoodIn wsX11_wetter (wsV RX11 355 RX11 yX11_isHandled wsX11_isHandled) := goodIn_app (goodIn_of _ (by decide +kernel)) ggX11_wetter_X11_isHandled
theorem dX11_wetter_0 : decode cX11_wetter 0 = .ok (.aload_n 0, 1) := by decide +kernel
theorem dX11_wetter_1 : decode cX11_wetter 1 = .ok (.iconst 0, 1) := by decide +kernel
theorem dX11_wetter_2 : decode cX11_wetter 2 = .ok (.putfield 120, 3) := by decide +kernel
theorem dX11_wetter_5 : decode cX11_wetter 5 = .ok (.aload_n 0, 1) := by decide +kernel
theorem dX11_wetter_6 : decode cX11_wetter 6 = .ok (.iload_n 1, 1) := by decide +kernel
theorem dX11_wetter_7 : decode cX11_wetter 7 = .ok (.iload_n 2, 1) := by decide +kernel
theorem dX11_wetter_8 : decode cX11_wetter 8 = .ok (.iload_n 3, 1) := by decide +kernel
theorem dX11_wetter_9 : decode cX11_wetter 9 = .ok (.iload 4, 2) := by decide +kernel
theorem dX11_wetter_11 : decode cX11_wetter 11 = .ok (.invokevirtual 355, 3) := by decide +kernel
theorem dX11_wetter_14 : decode cX11_wetter 14 = .ok (.ifCond .ne 6, 3) := by decide +kernel
theorem dX11_wetter_17 : decode cX11_wetter 17 = .ok (.bipush (-2), 2) := by decide +kernel
theorem dX11_wetter_19 : decode cX11_wetter 19 = .ok (.ireturn, 1) := by decide +kernel
theorem dX11_wetter_20 : decode cX11_wetter 20 = .ok (.aload_n 0, 1) := by decide +kernel
theorem dX11_wetter_21 : decode cX11_wetter 21 = .ok (.getfield 37, 3) := by decide +kernel
theorem dX11_wetter_24 : decode cX11_wetter 24 = .ok (.iconst 0, 1) := by decide +kernel
theorem dX11_wetter_25 : decode cX11_wetter 25 = .ok (.iaload, 1) := by decide +kernel
theorem dX11_wetter_26 : decode cX11_wetter 26 = .ok (.istore 5, 2) := by decide +kernel
theorem dX11_wetter_28 : decode cX11_wetter 28 = .ok (.iconst 0, 1) := by decide +kernel
theorem dX11_wetter_29 : decode cX11_wetter 29 = .ok (.istore 6, 2) := by decide +kernel
theorem dX11_wetter_31 : decode cX11_wetter 31 = .ok (.iconst 1, 1) := by decide +kernel
theorem dX11_wetter_32 : decode cX11_wetter 32 = .ok (.istore 7, 2) := by decide +kernel
theorem dX11_wetter_34 : decode cX11_wetter 34 = .ok (.iload 7, 2) := by decide +kernel
theorem dX11_wetter_36 : decode cX11_wetter 36 = .ok (.ifCond .eq 66, 3) := by decide +kernel
theorem dX11_wetter_39 : decode cX11_wetter 39 = .ok (.iload 6, 2) := by decide +kernel
theorem dX11_wetter_41 : decode cX11_wetter 41 = .ok (.bipush 100, 2) := by decide +kernel
theorem dX11_wetter_43 : decode cX11_wetter 43 = .ok (.if_icmp .gt 59, 3) := by decide +kernel
theorem dX11_wetter_46 : decode cX11_wetter 46 = .ok (.aload_n 0, 1) := by decide +kernel
theorem dX11_wetter_47 : decode cX11_wetter 47 = .ok (.getfield 37, 3) := by decide +kernel
theorem dX11_wetter_50 : decode cX11_wetter 50 = .ok (.iconst 0, 1) := by decide +kernel
theorem dX11_wetter_51 : decode cX11_wetter 51 = .ok (.iload 6, 2) := by decide +kernel
theorem dX11_wetter_53 : decode cX11_wetter 53 = .ok (.iastore, 1) := by decide +kernel
theorem dX11_wetter_54 : decode cX11_wetter 54 = .ok (.aload_n 0, 1) := by decide +kernel
theorem dX11_wetter_55 : decode cX11_wetter 55 = .ok (.bipush 16, 2) := by decide +kernel
theorem dX11_wetter_57 : decode cX11_wetter 57 = .ok (.iload_n 1, 1) := by decide +kernel
theorem dX11_wetter_58 : decode cX11_wetter 58 = .ok (.iload_n 2, 1) := by decide +kernel
theorem dX11_wetter_59 : decode cX11_wetter 59 = .ok (.iconst 3, 1) := by decide +kernel
theorem dX11_wetter_60 : decode cX11_wetter 60 = .ok (.invokevirtual 359, 3) := by decide +kernel
theorem dX11_wetter_63 : decode cX11_wetter 63 = .ok (.aload_n 0, 1) := by decide +kernel
theorem dX11_wetter_64 : decode cX11_wetter 64 = .ok (.bipush 16, 2) := by decide +kernel
theorem dX11_wetter_66 : decode cX11_wetter 66 = .ok (.iload_n 3, 1) := by decide +kernel
theorem dX11_wetter_67 : decode cX11_wetter 67 = .ok (.iload 4, 2) := by decide +kernel
theorem dX11_wetter_69 : decode cX11_wetter 69 = .ok (.invokevirtual 348, 3) := by decide +kernel
theorem dX11_wetter_72 : decode cX11_wetter 72 = .ok (.ldc 171, 2) := by decide +kernel
theorem dX11_wetter_74 : decode cX11_wetter 74 = .ok (.if_icmp .ge 7, 3) := by decide +kernel
theorem dX11_wetter_77 : decode cX11_wetter 77 = .ok (.iconst 1, 1) := by decide +kernel
theorem dX11_wetter_78 : decode cX11_wetter 78 = .ok (.goto 4, 3) := by decide +kernel
theorem dX11_wetter_81 : decode cX11_wetter 81 = .ok (.iconst 0, 1) := by decide +kernel
theorem dX11_wetter_82 : decode cX11_wetter 82 = .ok (.istore 7, 2) := by decide +kernel
theorem dX11_wetter_84 : decode cX11_wetter 84 = .ok (.iload 6, 2) := by decide +kernel
theorem dX11_wetter_86 : decode cX11_wetter 86 = .ok (.iload 7, 2) := by decide +kernel
theorem dX11_wetter_88 : decode cX11_wetter 88 = .ok (.ifCond .eq 7, 3) := by decide +kernel
theorem dX11_wetter_91 : decode cX11_wetter 91 = .ok (.iconst 1, 1) := by decide +kernel
theorem dX11_wetter_92 : decode cX11_wetter 92 = .ok (.goto 4, 3) := by decide +kernel
theorem dX11_wetter_95 : decode cX11_wetter 95 = .ok (.iconst 0, 1) := by decide +kernel
theorem dX11_wetter_96 : decode cX11_wetter 96 = .ok (.iadd, 1) := by decide +kernel
theorem dX11_wetter_97 : decode cX11_wetter 97 = .ok (.istore 6, 2) := by decide +kernel
theorem dX11_wetter_99 : decode cX11_wetter 99 = .ok (.goto (-65), 3) := by decide +kernel
theorem dX11_wetter_102 : decode cX11_wetter 102 = .ok (.aload_n 0, 1) := by decide +kernel
theorem dX11_wetter_103 : decode cX11_wetter 103 = .ok (.getfield 37, 3) := by decide +kernel
theorem dX11_wetter_106 : decode cX11_wetter 106 = .ok (.iconst 0, 1) := by decide +kernel
theorem dX11_wetter_107 : decode cX11_wetter 107 = .ok (.iload 5, 2) := by decide +kernel
theorem dX11_wetter_109 : decode cX11_wetter 109 = .ok (.iastore, 1) := by decide +kernel
theorem dX11_wetter_110 : decode cX11_wetter 110 = .ok (.iload 6, 2) := by decide +kernel
theorem dX11_wetter_112 : decode cX11_wetter 112 = .ok (.iconst 1, 1) := by decide +kernel
theorem dX11_wetter_113 : decode cX11_wetter 113 = .ok (.isub, 1) := by decide +kernel
theorem dX11_wetter_114 : decode cX11_wetter 114 = .ok (.ireturn, 1) := by decide +kernel
set_option maxRecDepth 20000 in
theorem ggX11_room_X11_isKind : GoodIn wsX11_room wsX11_isKind := goodIn_r _ [8, 9, 10, 11, 7, 12, 22, 23, 24, 25, 26, 27, 28, 29, 30, 31, 32, 33, 34, 35, 36, 37, 38, 39, 40, 41, 42, 43, 44, 45, 46, 47, 48, 49, 50, 51, 52, 53, 54, 55, 56, 57, 58, 59, 60, 61, 62, 63, 64, 65, 66, 67, 68, 69, 70, 71, 72, 73, 74, 75, 76, 77, 78, 79] (by decide +kernel) (by decide +kernel)
set_option maxRecDepth 20000 in
theorem gX11_room_X11_isKind : GoodIn wsX11_room (wsV RX11 319 RX11 yX11_isKind wsX11_isKind) := goodIn_app (goodIn_of _ (by decide +kernel)) ggX11_room_X11_isKind
theorem dX11_room_0 : decode cX11_room 0 = .ok (.aload_n 0, 1) := by decide +kernel
theorem dX11_room_1 : decode cX11_room 1 = .ok (.iconst 0, 1) := by decide +kernel
theorem dX11_room_2 : decode cX11_room 2 = .ok (.putfield 120, 3) := by decide +kernel
theorem dX11_room_5 : decode cX11_room 5 = .ok (.aload_n 0, 1) := by decide +kernel
theorem dX11_room_6 : decode cX11_room 6 = .ok (.iload_n 1, 1) := by decide +kernel
theorem dX11_room_7 : decode cX11_room 7 = .ok (.invokevirtual 319, 3) := by decide +kernel
theorem dX11_room_10 : decode cX11_room 10 = .ok (.ifCond .eq 39, 3) := by decide +kernel
theorem dX11_room_13 : decode cX11_room 13 = .ok (.aload_n 0, 1) := by decide +kernel
theorem dX11_room_14 : decode cX11_room 14 = .ok (.iload_n 2, 1) := by decide +kernel
theorem dX11_room_15 : decode cX11_room 15 = .ok (.invokevirtual 352, 3) := by decide +kernel
theorem dX11_room_18 : decode cX11_room 18 = .ok (.ifCond .eq 31, 3) := by decide +kernel
theorem dX11_room_21 : decode cX11_room 21 = .ok (.aload_n 0, 1) := by decide +kernel
theorem dX11_room_22 : decode cX11_room 22 = .ok (.getfield 52, 3) := by decide +kernel
theorem dX11_room_25 : decode cX11_room 25 = .ok (.iconst 2, 1) := by decide +kernel
theorem dX11_room_26 : decode cX11_room 26 = .ok (.iload_n 2, 1) := by decide +kernel
theorem dX11_room_27 : decode cX11_room 27 = .ok (.imul, 1) := by decide +kernel
theorem dX11_room_28 : decode cX11_room 28 = .ok (.iconst 1, 1) := by decide +kernel
theorem dX11_room_29 : decode cX11_room 29 = .ok (.iadd, 1) := by decide +kernel
theorem dX11_room_30 : decode cX11_room 30 = .ok (.iaload, 1) := by decide +kernel
theorem dX11_room_31 : decode cX11_room 31 = .ok (.aload_n 0, 1) := by decide +kernel
theorem dX11_room_32 : decode cX11_room 32 = .ok (.getfield 52, 3) := by decide +kernel
theorem dX11_room_35 : decode cX11_room 35 = .ok (.iconst 2, 1) := by decide +kernel
theorem dX11_room_36 : decode cX11_room 36 = .ok (.iload_n 2, 1) := by decide +kernel
theorem dX11_room_37 : decode cX11_room 37 = .ok (.imul, 1) := by decide +kernel
theorem dX11_room_38 : decode cX11_room 38 = .ok (.iaload, 1) := by decide +kernel
theorem dX11_room_39 : decode cX11_room 39 = .ok (.isub, 1) := by decide +kernel
theorem dX11_room_40 : decode cX11_room 40 = .ok (.aload_n 0, 1) := by decide +kernel
theorem dX11_room_41 : decode cX11_room 41 = .ok (.iload_n 1, 1) := by decide +kernel
theorem dX11_room_42 : decode cX11_room 42 = .ok (.invokevirtual 331, 3) := by decide +kernel
theorem dX11_room_45 : decode cX11_room 45 = .ok (.isub, 1) := by decide +kernel
theorem dX11_room_46 : decode cX11_room 46 = .ok (.goto 6, 3) := by decide +kernel
theorem dX11_room_49 : decode cX11_room 49 = .ok (.ldc_w 389, 3) := by decide +kernel
theorem dX11_room_52 : decode cX11_room 52 = .ok (.ireturn, 1) := by decide +kernel
set_option maxRecDepth 20000 in
theorem ggX11_told_X11_isMoving : GoodIn wsX11_told wsX11_isMoving := goodIn_r _ [9, 10, 11, 12, 13, 8, 14, 15, 16, 17, 18, 19, 20, 21, 22, 4, 23, 24, 25, 26, 52, 53, 54, 55, 56, 57, 58, 59, 60, 61, 62, 63, 64, 65, 66, 67, 68, 69, 70, 71, 72, 73, 74, 75, 76, 77, 78, 79, 80, 81, 82, 83, 84, 85, 86, 87, 88, 89, 90, 91, 92, 93, 94, 95, 96, 97, 98, 99, 100, 101, 102, 103, 104, 105, 106, 107, 108, 109] (by decide +kernel) (by decide +kernel)
set_option maxRecDepth 20000 in
theorem gX11_told_X11_isMoving : GoodIn wsX11_told (wsV RX11 324 RX11 yX11_isMoving wsX11_isMoving) := goodIn_app (goodIn_of _ (by decide +kernel)) ggX11_told_X11_isMoving
theorem dX11_told_0 : decode cX11_told 0 = .ok (.aload_n 0, 1) := by decide +kernel
theorem dX11_told_1 : decode cX11_told 1 = .ok (.iconst 0, 1) := by decide +kernel
theorem dX11_told_2 : decode cX11_told 2 = .ok (.putfield 120, 3) := by decide +kernel
theorem dX11_told_5 : decode cX11_told 5 = .ok (.aload_n 0, 1) := by decide +kernel
theorem dX11_told_6 : decode cX11_told 6 = .ok (.iload_n 2, 1) := by decide +kernel
theorem dX11_told_7 : decode cX11_told 7 = .ok (.iload_n 3, 1) := by decide +kernel
theorem dX11_told_8 : decode cX11_told 8 = .ok (.iload 4, 2) := by decide +kernel
theorem dX11_told_10 : decode cX11_told 10 = .ok (.invokevirtual 324, 3) := by decide +kernel
theorem dX11_told_13 : decode cX11_told 13 = .ok (.ifCond .ne 6, 3) := by decide +kernel
theorem dX11_told_16 : decode cX11_told 16 = .ok (.bipush (-2), 2) := by decide +kernel
theorem dX11_told_18 : decode cX11_told 18 = .ok (.ireturn, 1) := by decide +kernel
theorem dX11_told_19 : decode cX11_told 19 = .ok (.aload_n 0, 1) := by decide +kernel
theorem dX11_told_20 : decode cX11_told 20 = .ok (.iload_n 1, 1) := by decide +kernel
theorem dX11_told_21 : decode cX11_told 21 = .ok (.invokevirtual 390, 3) := by decide +kernel
theorem dX11_told_24 : decode cX11_told 24 = .ok (.istore 5, 2) := by decide +kernel
theorem dX11_told_26 : decode cX11_told 26 = .ok (.iload 5, 2) := by decide +kernel
theorem dX11_told_28 : decode cX11_told 28 = .ok (.ifCond .eq 6, 3) := by decide +kernel
theorem dX11_told_31 : decode cX11_told 31 = .ok (.iload 5, 2) := by decide +kernel
theorem dX11_told_33 : decode cX11_told 33 = .ok (.ireturn, 1) := by decide +kernel
theorem dX11_told_34 : decode cX11_told 34 = .ok (.iload_n 3, 1) := by decide +kernel
theorem dX11_told_35 : decode cX11_told 35 = .ok (.istore 6, 2) := by decide +kernel
theorem dX11_told_37 : decode cX11_told 37 = .ok (.iload 4, 2) := by decide +kernel
theorem dX11_told_39 : decode cX11_told 39 = .ok (.istore 7, 2) := by decide +kernel
theorem dX11_told_41 : decode cX11_told 41 = .ok (.iconst 0, 1) := by decide +kernel
theorem dX11_told_42 : decode cX11_told 42 = .ok (.istore 8, 2) := by decide +kernel
theorem dX11_told_44 : decode cX11_told 44 = .ok (.iload 7, 2) := by decide +kernel
theorem dX11_told_46 : decode cX11_told 46 = .ok (.ifCond .le 68, 3) := by decide +kernel
theorem dX11_told_49 : decode cX11_told 49 = .ok (.aload_n 0, 1) := by decide +kernel
theorem dX11_told_50 : decode cX11_told 50 = .ok (.iload_n 2, 1) := by decide +kernel
theorem dX11_told_51 : decode cX11_told 51 = .ok (.iload 6, 2) := by decide +kernel
theorem dX11_told_53 : decode cX11_told 53 = .ok (.iload 7, 2) := by decide +kernel
theorem dX11_told_55 : decode cX11_told 55 = .ok (.iload 8, 2) := by decide +kernel
theorem dX11_told_57 : decode cX11_told 57 = .ok (.aload_n 0, 1) := by decide +kernel
theorem dX11_told_58 : decode cX11_told 58 = .ok (.getfield 13, 3) := by decide +kernel
theorem dX11_told_61 : decode cX11_told 61 = .ok (.iload_n 1, 1) := by decide +kernel
theorem dX11_told_62 : decode cX11_told 62 = .ok (.iaload, 1) := by decide +kernel
theorem dX11_told_63 : decode cX11_told 63 = .ok (.if_icmp .ge 19, 3) := by decide +kernel
theorem dX11_told_66 : decode cX11_told 66 = .ok (.aload_n 0, 1) := by decide +kernel
theorem dX11_told_67 : decode cX11_told 67 = .ok (.getfield 16, 3) := by decide +kernel
theorem dX11_told_70 : decode cX11_told 70 = .ok (.bipush 60, 2) := by decide +kernel
theorem dX11_told_72 : decode cX11_told 72 = .ok (.iload_n 1, 1) := by decide +kernel
theorem dX11_told_73 : decode cX11_told 73 = .ok (.imul, 1) := by decide +kernel
theorem dX11_told_74 : decode cX11_told 74 = .ok (.iload 8, 2) := by decide +kernel
theorem dX11_told_76 : decode cX11_told 76 = .ok (.iadd, 1) := by decide +kernel
theorem dX11_told_77 : decode cX11_told 77 = .ok (.laload, 1) := by decide +kernel
theorem dX11_told_78 : decode cX11_told 78 = .ok (.l2i, 1) := by decide +kernel
theorem dX11_told_79 : decode cX11_told 79 = .ok (.goto 4, 3) := by decide +kernel
theorem dX11_told_82 : decode cX11_told 82 = .ok (.iconst 3, 1) := by decide +kernel
theorem dX11_told_83 : decode cX11_told 83 = .ok (.invokevirtual 327, 3) := by decide +kernel
theorem dX11_told_86 : decode cX11_told 86 = .ok (.istore 7, 2) := by decide +kernel
theorem dX11_told_88 : decode cX11_told 88 = .ok (.iload 6, 2) := by decide +kernel
theorem dX11_told_90 : decode cX11_told 90 = .ok (.iload 7, 2) := by decide +kernel
theorem dX11_told_92 : decode cX11_told 92 = .ok (.iadd, 1) := by decide +kernel
theorem dX11_told_93 : decode cX11_told 93 = .ok (.istore 6, 2) := by decide +kernel
theorem dX11_told_95 : decode cX11_told 95 = .ok (.iload 6, 2) := by decide +kernel
theorem dX11_told_97 : decode cX11_told 97 = .ok (.aload_n 0, 1) := by decide +kernel
theorem dX11_told_98 : decode cX11_told 98 = .ok (.getfield 34, 3) := by decide +kernel
theorem dX11_told_101 : decode cX11_told 101 = .ok (.iconst 0, 1) := by decide +kernel
theorem dX11_told_102 : decode cX11_told 102 = .ok (.iaload, 1) := by decide +kernel
theorem dX11_told_103 : decode cX11_told 103 = .ok (.if_icmp .le 5, 3) := by decide +kernel
theorem dX11_told_106 : decode cX11_told 106 = .ok (.iconst (-1), 1) := by decide +kernel
theorem dX11_told_107 : decode cX11_told 107 = .ok (.ireturn, 1) := by decide +kernel
theorem dX11_told_108 : decode cX11_told 108 = .ok (.iinc 8 1, 3) := by decide +kernel
theorem dX11_told_111 : decode cX11_told 111 = .ok (.goto (-67), 3) := by decide +kernel
theorem dX11_told_114 : decode cX11_told 114 = .ok (.iload 6, 2) := by decide +kernel
theorem dX11_told_116 : decode cX11_told 116 = .ok (.ireturn, 1) := by decide +kernel
set_option maxRecDepth 20000 in
theorem ggX11_judge_X11_isHandled : GoodIn wsX11_judge wsX11_isHandled := goodIn_r _ [10, 11, 12, 13, 9, 14, 15, 16, 17, 18, 19, 20, 21, 22, 23, 24, 25, 26, 27, 4, 28, 29, 30, 31, 32, 33, 34, 35, 88, 89, 90, 91, 92, 93, 94, 95, 96, 97, 98, 99, 100, 101, 102, 103, 104, 105, 106, 107, 108, 109, 110, 111, 112, 113, 114, 115, 116, 117, 118, 119, 120, 121, 122, 123, 124, 125, 126, 127, 128, 129, 130, 131, 132, 133, 134, 135, 136, 137, 138, 139, 140, 141, 142, 143, 144, 145] (by decide +kernel) (by decide +kernel)
set_option maxRecDepth 20000 in
theorem gX11_judge_X11_isHandled : GoodIn wsX11_judge (wsV RX11 355 RX11 yX11_isHandled wsX11_isHandled) := goodIn_app (goodIn_of _ (by decide +kernel)) ggX11_judge_X11_isHandled
theorem dX11_judge_0 : decode cX11_judge 0 = .ok (.aload_n 0, 1) := by decide +kernel
theorem dX11_judge_1 : decode cX11_judge 1 = .ok (.iconst 0, 1) := by decide +kernel
theorem dX11_judge_2 : decode cX11_judge 2 = .ok (.putfield 120, 3) := by decide +kernel
theorem dX11_judge_5 : decode cX11_judge 5 = .ok (.aload_n 0, 1) := by decide +kernel
theorem dX11_judge_6 : decode cX11_judge 6 = .ok (.iload_n 2, 1) := by decide +kernel
theorem dX11_judge_7 : decode cX11_judge 7 = .ok (.iload_n 3, 1) := by decide +kernel
theorem dX11_judge_8 : decode cX11_judge 8 = .ok (.iload 4, 2) := by decide +kernel
theorem dX11_judge_10 : decode cX11_judge 10 = .ok (.iload 5, 2) := by decide +kernel
theorem dX11_judge_12 : decode cX11_judge 12 = .ok (.invokevirtual 355, 3) := by decide +kernel
theorem dX11_judge_15 : decode cX11_judge 15 = .ok (.ifCond .ne 6, 3) := by decide +kernel
theorem dX11_judge_18 : decode cX11_judge 18 = .ok (.bipush (-2), 2) := by decide +kernel
theorem dX11_judge_20 : decode cX11_judge 20 = .ok (.ireturn, 1) := by decide +kernel
theorem dX11_judge_21 : decode cX11_judge 21 = .ok (.aload_n 0, 1) := by decide +kernel
theorem dX11_judge_22 : decode cX11_judge 22 = .ok (.iload_n 1, 1) := by decide +kernel
theorem dX11_judge_23 : decode cX11_judge 23 = .ok (.invokevirtual 390, 3) := by decide +kernel
theorem dX11_judge_26 : decode cX11_judge 26 = .ok (.istore 6, 2) := by decide +kernel
theorem dX11_judge_28 : decode cX11_judge 28 = .ok (.iload 6, 2) := by decide +kernel
theorem dX11_judge_30 : decode cX11_judge 30 = .ok (.ifCond .eq 6, 3) := by decide +kernel
theorem dX11_judge_33 : decode cX11_judge 33 = .ok (.iload 6, 2) := by decide +kernel
theorem dX11_judge_35 : decode cX11_judge 35 = .ok (.ireturn, 1) := by decide +kernel
theorem dX11_judge_36 : decode cX11_judge 36 = .ok (.aload_n 0, 1) := by decide +kernel
theorem dX11_judge_37 : decode cX11_judge 37 = .ok (.bipush 16, 2) := by decide +kernel
theorem dX11_judge_39 : decode cX11_judge 39 = .ok (.iload_n 2, 1) := by decide +kernel
theorem dX11_judge_40 : decode cX11_judge 40 = .ok (.iload_n 3, 1) := by decide +kernel
theorem dX11_judge_41 : decode cX11_judge 41 = .ok (.iconst 3, 1) := by decide +kernel
theorem dX11_judge_42 : decode cX11_judge 42 = .ok (.invokevirtual 359, 3) := by decide +kernel
theorem dX11_judge_45 : decode cX11_judge 45 = .ok (.iload 4, 2) := by decide +kernel
theorem dX11_judge_47 : decode cX11_judge 47 = .ok (.istore 7, 2) := by decide +kernel
theorem dX11_judge_49 : decode cX11_judge 49 = .ok (.iload 5, 2) := by decide +kernel
theorem dX11_judge_51 : decode cX11_judge 51 = .ok (.istore 8, 2) := by decide +kernel
theorem dX11_judge_53 : decode cX11_judge 53 = .ok (.iconst 0, 1) := by decide +kernel
theorem dX11_judge_54 : decode cX11_judge 54 = .ok (.istore 9, 2) := by decide +kernel
theorem dX11_judge_56 : decode cX11_judge 56 = .ok (.iload 9, 2) := by decide +kernel
theorem dX11_judge_58 : decode cX11_judge 58 = .ok (.aload_n 0, 1) := by decide +kernel
theorem dX11_judge_59 : decode cX11_judge 59 = .ok (.getfield 13, 3) := by decide +kernel
theorem dX11_judge_62 : decode cX11_judge 62 = .ok (.iload_n 1, 1) := by decide +kernel
theorem dX11_judge_63 : decode cX11_judge 63 = .ok (.iaload, 1) := by decide +kernel
theorem dX11_judge_64 : decode cX11_judge 64 = .ok (.if_icmp .ge 97, 3) := by decide +kernel
theorem dX11_judge_67 : decode cX11_judge 67 = .ok (.aload_n 0, 1) := by decide +kernel
theorem dX11_judge_68 : decode cX11_judge 68 = .ok (.iload_n 2, 1) := by decide +kernel
theorem dX11_judge_69 : decode cX11_judge 69 = .ok (.iload 7, 2) := by decide +kernel
theorem dX11_judge_71 : decode cX11_judge 71 = .ok (.iload 8, 2) := by decide +kernel
theorem dX11_judge_73 : decode cX11_judge 73 = .ok (.aload_n 0, 1) := by decide +kernel
theorem dX11_judge_74 : decode cX11_judge 74 = .ok (.getfield 16, 3) := by decide +kernel
theorem dX11_judge_77 : decode cX11_judge 77 = .ok (.bipush 60, 2) := by decide +kernel
theorem dX11_judge_79 : decode cX11_judge 79 = .ok (.iload_n 1, 1) := by decide +kernel
theorem dX11_judge_80 : decode cX11_judge 80 = .ok (.imul, 1) := by decide +kernel
theorem dX11_judge_81 : decode cX11_judge 81 = .ok (.iload 9, 2) := by decide +kernel
theorem dX11_judge_83 : decode cX11_judge 83 = .ok (.iadd, 1) := by decide +kernel
theorem dX11_judge_84 : decode cX11_judge 84 = .ok (.laload, 1) := by decide +kernel
theorem dX11_judge_85 : decode cX11_judge 85 = .ok (.l2i, 1) := by decide +kernel
theorem dX11_judge_86 : decode cX11_judge 86 = .ok (.invokevirtual 327, 3) := by decide +kernel
theorem dX11_judge_89 : decode cX11_judge 89 = .ok (.istore 8, 2) := by decide +kernel
theorem dX11_judge_91 : decode cX11_judge 91 = .ok (.iload 7, 2) := by decide +kernel
theorem dX11_judge_93 : decode cX11_judge 93 = .ok (.iload 8, 2) := by decide +kernel
theorem dX11_judge_95 : decode cX11_judge 95 = .ok (.iadd, 1) := by decide +kernel
theorem dX11_judge_96 : decode cX11_judge 96 = .ok (.istore 7, 2) := by decide +kernel
theorem dX11_judge_98 : decode cX11_judge 98 = .ok (.iload 8, 2) := by decide +kernel
theorem dX11_judge_100 : decode cX11_judge 100 = .ok (.ifCond .ne 26, 3) := by decide +kernel
theorem dX11_judge_103 : decode cX11_judge 103 = .ok (.aload_n 0, 1) := by decide +kernel
theorem dX11_judge_104 : decode cX11_judge 104 = .ok (.iload_n 2, 1) := by decide +kernel
theorem dX11_judge_105 : decode cX11_judge 105 = .ok (.iload_n 3, 1) := by decide +kernel
theorem dX11_judge_106 : decode cX11_judge 106 = .ok (.iload 7, 2) := by decide +kernel
theorem dX11_judge_108 : decode cX11_judge 108 = .ok (.invokevirtual 338, 3) := by decide +kernel
theorem dX11_judge_111 : decode cX11_judge 111 = .ok (.ifCond .eq 12, 3) := by decide +kernel
theorem dX11_judge_114 : decode cX11_judge 114 = .ok (.aload_n 0, 1) := by decide +kernel
theorem dX11_judge_115 : decode cX11_judge 115 = .ok (.getfield 13, 3) := by decide +kernel
theorem dX11_judge_118 : decode cX11_judge 118 = .ok (.iload_n 1, 1) := by decide +kernel
theorem dX11_judge_119 : decode cX11_judge 119 = .ok (.iaload, 1) := by decide +kernel
theorem dX11_judge_120 : decode cX11_judge 120 = .ok (.goto 5, 3) := by decide +kernel
theorem dX11_judge_123 : decode cX11_judge 123 = .ok (.iload 9, 2) := by decide +kernel
theorem dX11_judge_125 : decode cX11_judge 125 = .ok (.ireturn, 1) := by decide +kernel
theorem dX11_judge_126 : decode cX11_judge 126 = .ok (.iload 7, 2) := by decide +kernel
theorem dX11_judge_128 : decode cX11_judge 128 = .ok (.aload_n 0, 1) := by decide +kernel
theorem dX11_judge_129 : decode cX11_judge 129 = .ok (.getfield 34, 3) := by decide +kernel
theorem dX11_judge_132 : decode cX11_judge 132 = .ok (.iconst 0, 1) := by decide +kernel
theorem dX11_judge_133 : decode cX11_judge 133 = .ok (.iaload, 1) := by decide +kernel
theorem dX11_judge_134 : decode cX11_judge 134 = .ok (.if_icmp .gt 18, 3) := by decide +kernel
theorem dX11_judge_137 : decode cX11_judge 137 = .ok (.aload_n 0, 1) := by decide +kernel
theorem dX11_judge_138 : decode cX11_judge 138 = .ok (.bipush 16, 2) := by decide +kernel
theorem dX11_judge_140 : decode cX11_judge 140 = .ok (.iload 7, 2) := by decide +kernel
theorem dX11_judge_142 : decode cX11_judge 142 = .ok (.iload 8, 2) := by decide +kernel
theorem dX11_judge_144 : decode cX11_judge 144 = .ok (.invokevirtual 348, 3) := by decide +kernel
theorem dX11_judge_147 : decode cX11_judge 147 = .ok (.ldc 171, 2) := by decide +kernel
theorem dX11_judge_149 : decode cX11_judge 149 = .ok (.if_icmp .lt 6, 3) := by decide +kernel
theorem dX11_judge_152 : decode cX11_judge 152 = .ok (.iload 9, 2) := by decide +kernel
theorem dX11_judge_154 : decode cX11_judge 154 = .ok (.ireturn, 1) := by decide +kernel
theorem dX11_judge_155 : decode cX11_judge 155 = .ok (.iinc 9 1, 3) := by decide +kernel
theorem dX11_judge_158 : decode cX11_judge 158 = .ok (.goto (-102), 3) := by decide +kernel
theorem dX11_judge_161 : decode cX11_judge 161 = .ok (.aload_n 0, 1) := by decide +kernel
theorem dX11_judge_162 : decode cX11_judge 162 = .ok (.getfield 13, 3) := by decide +kernel
theorem dX11_judge_165 : decode cX11_judge 165 = .ok (.iload_n 1, 1) := by decide +kernel
theorem dX11_judge_166 : decode cX11_judge 166 = .ok (.iaload, 1) := by decide +kernel
theorem dX11_judge_167 : decode cX11_judge 167 = .ok (.ireturn, 1) := by decide +kernel
set_option maxRecDepth 20000 in
theorem ggX11_pulls_X11_isTrain : GoodIn wsX11_pulls wsX11_isTrain := goodIn_r _ [7, 8, 9, 10, 6, 11, 34, 35, 36, 37, 38, 39, 40, 41, 42, 43, 44, 45, 46, 47, 48, 49, 50, 51, 52, 53, 54, 55, 56, 57, 58, 59, 60, 61, 62, 63, 64, 65, 66, 67, 68, 69, 70, 71, 72, 73, 74, 75, 76, 77, 78, 79, 80, 81, 82, 83, 84, 85, 86, 87, 88, 89, 90, 91] (by decide +kernel) (by decide +kernel)
set_option maxRecDepth 20000 in
theorem gX11_pulls_X11_isTrain : GoodIn wsX11_pulls (wsV RX11 314 RX11 yX11_isTrain wsX11_isTrain) := goodIn_app (goodIn_of _ (by decide +kernel)) ggX11_pulls_X11_isTrain
theorem dX11_pulls_0 : decode cX11_pulls 0 = .ok (.aload_n 0, 1) := by decide +kernel
theorem dX11_pulls_1 : decode cX11_pulls 1 = .ok (.iconst 0, 1) := by decide +kernel
theorem dX11_pulls_2 : decode cX11_pulls 2 = .ok (.putfield 120, 3) := by decide +kernel
theorem dX11_pulls_5 : decode cX11_pulls 5 = .ok (.aload_n 0, 1) := by decide +kernel
theorem dX11_pulls_6 : decode cX11_pulls 6 = .ok (.iload_n 1, 1) := by decide +kernel
theorem dX11_pulls_7 : decode cX11_pulls 7 = .ok (.invokevirtual 314, 3) := by decide +kernel
theorem dX11_pulls_10 : decode cX11_pulls 10 = .ok (.ifCond .eq 33, 3) := by decide +kernel
theorem dX11_pulls_13 : decode cX11_pulls 13 = .ok (.aload_n 0, 1) := by decide +kernel
theorem dX11_pulls_14 : decode cX11_pulls 14 = .ok (.iload_n 2, 1) := by decide +kernel
theorem dX11_pulls_15 : decode cX11_pulls 15 = .ok (.invokevirtual 293, 3) := by decide +kernel
theorem dX11_pulls_18 : decode cX11_pulls 18 = .ok (.ifCond .eq 25, 3) := by decide +kernel
theorem dX11_pulls_21 : decode cX11_pulls 21 = .ok (.iload_n 3, 1) := by decide +kernel
theorem dX11_pulls_22 : decode cX11_pulls 22 = .ok (.i2l, 1) := by decide +kernel
theorem dX11_pulls_23 : decode cX11_pulls 23 = .ok (.lconst 0, 1) := by decide +kernel
theorem dX11_pulls_24 : decode cX11_pulls 24 = .ok (.ldc2_w 453, 3) := by decide +kernel
theorem dX11_pulls_27 : decode cX11_pulls 27 = .ok (.invokestatic 125, 3) := by decide +kernel
theorem dX11_pulls_30 : decode cX11_pulls 30 = .ok (.ifCond .eq 13, 3) := by decide +kernel
theorem dX11_pulls_33 : decode cX11_pulls 33 = .ok (.aload_n 0, 1) := by decide +kernel
theorem dX11_pulls_34 : decode cX11_pulls 34 = .ok (.iload_n 1, 1) := by decide +kernel
theorem dX11_pulls_35 : decode cX11_pulls 35 = .ok (.iload_n 2, 1) := by decide +kernel
theorem dX11_pulls_36 : decode cX11_pulls 36 = .ok (.iload_n 3, 1) := by decide +kernel
theorem dX11_pulls_37 : decode cX11_pulls 37 = .ok (.invokevirtual 428, 3) := by decide +kernel
theorem dX11_pulls_40 : decode cX11_pulls 40 = .ok (.goto 5, 3) := by decide +kernel
theorem dX11_pulls_43 : decode cX11_pulls 43 = .ok (.bipush (-2), 2) := by decide +kernel
theorem dX11_pulls_45 : decode cX11_pulls 45 = .ok (.ireturn, 1) := by decide +kernel
set_option maxRecDepth 20000 in
theorem ggX11_passes_X11_isTrain : GoodIn wsX11_passes wsX11_isTrain := goodIn_r _ [8, 9, 10, 11, 7, 12, 55, 56, 57, 58, 59, 60, 61, 62, 63, 64, 65, 66, 67, 68, 69, 70, 71, 72, 73, 74, 75, 76, 77, 78, 79, 80, 81, 82, 83, 84, 85, 86, 87, 88, 89, 90, 91, 92, 93, 94, 95, 96, 97, 98, 99, 100, 101, 102, 103, 104, 105, 106, 107, 108, 109, 110, 111, 112] (by decide +kernel) (by decide +kernel)
set_option maxRecDepth 20000 in
theorem gX11_passes_X11_isTrain : GoodIn wsX11_passes (wsV RX11 314 RX11 yX11_isTrain wsX11_isTrain) := goodIn_app (goodIn_of _ (by decide +kernel)) ggX11_passes_X11_isTrain
theorem dX11_passes_0 : decode cX11_passes 0 = .ok (.aload_n 0, 1) := by decide +kernel
theorem dX11_passes_1 : decode cX11_passes 1 = .ok (.iconst 0, 1) := by decide +kernel
theorem dX11_passes_2 : decode cX11_passes 2 = .ok (.putfield 120, 3) := by decide +kernel
theorem dX11_passes_5 : decode cX11_passes 5 = .ok (.aload_n 0, 1) := by decide +kernel
theorem dX11_passes_6 : decode cX11_passes 6 = .ok (.iload_n 1, 1) := by decide +kernel
theorem dX11_passes_7 : decode cX11_passes 7 = .ok (.invokevirtual 314, 3) := by decide +kernel
theorem dX11_passes_10 : decode cX11_passes 10 = .ok (.ifCond .eq 11, 3) := by decide +kernel
theorem dX11_passes_13 : decode cX11_passes 13 = .ok (.aload_n 0, 1) := by decide +kernel
theorem dX11_passes_14 : decode cX11_passes 14 = .ok (.iload_n 2, 1) := by decide +kernel
theorem dX11_passes_15 : decode cX11_passes 15 = .ok (.invokevirtual 293, 3) := by decide +kernel
theorem dX11_passes_18 : decode cX11_passes 18 = .ok (.ifCond .ne 6, 3) := by decide +kernel
theorem dX11_passes_21 : decode cX11_passes 21 = .ok (.bipush (-2), 2) := by decide +kernel
theorem dX11_passes_23 : decode cX11_passes 23 = .ok (.ireturn, 1) := by decide +kernel
theorem dX11_passes_24 : decode cX11_passes 24 = .ok (.aload_n 0, 1) := by decide +kernel
theorem dX11_passes_25 : decode cX11_passes 25 = .ok (.iload_n 1, 1) := by decide +kernel
theorem dX11_passes_26 : decode cX11_passes 26 = .ok (.invokevirtual 410, 3) := by decide +kernel
theorem dX11_passes_29 : decode cX11_passes 29 = .ok (.istore_n 3, 1) := by decide +kernel
theorem dX11_passes_30 : decode cX11_passes 30 = .ok (.aload_n 0, 1) := by decide +kernel
theorem dX11_passes_31 : decode cX11_passes 31 = .ok (.iload_n 1, 1) := by decide +kernel
theorem dX11_passes_32 : decode cX11_passes 32 = .ok (.iload_n 3, 1) := by decide +kernel
theorem dX11_passes_33 : decode cX11_passes 33 = .ok (.invokevirtual 425, 3) := by decide +kernel
theorem dX11_passes_36 : decode cX11_passes 36 = .ok (.istore 4, 2) := by decide +kernel
theorem dX11_passes_38 : decode cX11_passes 38 = .ok (.aload_n 0, 1) := by decide +kernel
theorem dX11_passes_39 : decode cX11_passes 39 = .ok (.getfield 58, 3) := by decide +kernel
theorem dX11_passes_42 : decode cX11_passes 42 = .ok (.iconst 3, 1) := by decide +kernel
theorem dX11_passes_43 : decode cX11_passes 43 = .ok (.iload_n 1, 1) := by decide +kernel
theorem dX11_passes_44 : decode cX11_passes 44 = .ok (.imul, 1) := by decide +kernel
theorem dX11_passes_45 : decode cX11_passes 45 = .ok (.iaload, 1) := by decide +kernel
theorem dX11_passes_46 : decode cX11_passes 46 = .ok (.istore 5, 2) := by decide +kernel
theorem dX11_passes_48 : decode cX11_passes 48 = .ok (.iload 4, 2) := by decide +kernel
theorem dX11_passes_50 : decode cX11_passes 50 = .ok (.iload_n 2, 1) := by decide +kernel
theorem dX11_passes_51 : decode cX11_passes 51 = .ok (.if_icmp .ge 51, 3) := by decide +kernel
theorem dX11_passes_54 : decode cX11_passes 54 = .ok (.iload 4, 2) := by decide +kernel
theorem dX11_passes_56 : decode cX11_passes 56 = .ok (.aload_n 0, 1) := by decide +kernel
theorem dX11_passes_57 : decode cX11_passes 57 = .ok (.iload_n 1, 1) := by decide +kernel
theorem dX11_passes_58 : decode cX11_passes 58 = .ok (.iload 4, 2) := by decide +kernel
theorem dX11_passes_60 : decode cX11_passes 60 = .ok (.iload_n 3, 1) := by decide +kernel
theorem dX11_passes_61 : decode cX11_passes 61 = .ok (.invokevirtual 428, 3) := by decide +kernel
theorem dX11_passes_64 : decode cX11_passes 64 = .ok (.iadd, 1) := by decide +kernel
theorem dX11_passes_65 : decode cX11_passes 65 = .ok (.istore 4, 2) := by decide +kernel
theorem dX11_passes_67 : decode cX11_passes 67 = .ok (.iinc 5 1, 3) := by decide +kernel
theorem dX11_passes_70 : decode cX11_passes 70 = .ok (.iload_n 3, 1) := by decide +kernel
theorem dX11_passes_71 : decode cX11_passes 71 = .ok (.ifCond .le (-23), 3) := by decide +kernel
theorem dX11_passes_74 : decode cX11_passes 74 = .ok (.aload_n 0, 1) := by decide +kernel
theorem dX11_passes_75 : decode cX11_passes 75 = .ok (.getfield 61, 3) := by decide +kernel
theorem dX11_passes_78 : decode cX11_passes 78 = .ok (.iconst 5, 1) := by decide +kernel
theorem dX11_passes_79 : decode cX11_passes 79 = .ok (.aload_n 0, 1) := by decide +kernel
theorem dX11_passes_80 : decode cX11_passes 80 = .ok (.iload_n 1, 1) := by decide +kernel
theorem dX11_passes_81 : decode cX11_passes 81 = .ok (.iload_n 3, 1) := by decide +kernel
theorem dX11_passes_82 : decode cX11_passes 82 = .ok (.iconst 1, 1) := by decide +kernel
theorem dX11_passes_83 : decode cX11_passes 83 = .ok (.isub, 1) := by decide +kernel
theorem dX11_passes_84 : decode cX11_passes 84 = .ok (.invokevirtual 396, 3) := by decide +kernel
theorem dX11_passes_87 : decode cX11_passes 87 = .ok (.imul, 1) := by decide +kernel
theorem dX11_passes_88 : decode cX11_passes 88 = .ok (.iconst 3, 1) := by decide +kernel
theorem dX11_passes_89 : decode cX11_passes 89 = .ok (.iadd, 1) := by decide +kernel
theorem dX11_passes_90 : decode cX11_passes 90 = .ok (.iaload, 1) := by decide +kernel
theorem dX11_passes_91 : decode cX11_passes 91 = .ok (.iload 4, 2) := by decide +kernel
theorem dX11_passes_93 : decode cX11_passes 93 = .ok (.if_icmp .gt (-45), 3) := by decide +kernel
theorem dX11_passes_96 : decode cX11_passes 96 = .ok (.iinc 3 (-1), 3) := by decide +kernel
theorem dX11_passes_99 : decode cX11_passes 99 = .ok (.goto (-29), 3) := by decide +kernel
theorem dX11_passes_102 : decode cX11_passes 102 = .ok (.iload 5, 2) := by decide +kernel
theorem dX11_passes_104 : decode cX11_passes 104 = .ok (.ireturn, 1) := by decide +kernel
set_option maxRecDepth 20000 in
theorem ggX11_lets_X11_isCoach : GoodIn wsX11_lets wsX11_isCoach := goodIn_r _ [10, 11, 12, 13, 9, 14, 162, 163, 164, 165, 166, 167, 168, 169, 170, 171, 172, 173, 174, 175, 176, 177, 178, 179, 180, 181, 182, 183, 184, 185, 186, 187, 188, 189, 190, 191, 192, 193, 194, 195, 196, 197, 198, 199, 200, 201, 202, 203, 204, 205, 206, 207, 208, 209, 210, 211, 212, 213, 214, 215, 216, 217, 218, 219] (by decide +kernel) (by decide +kernel)
set_option maxRecDepth 20000 in
theorem gX11_lets_X11_isCoach : GoodIn wsX11_lets (wsV RX11 307 RX11 yX11_isCoach wsX11_isCoach) := goodIn_app (goodIn_of _ (by decide +kernel)) ggX11_lets_X11_isCoach
theorem dX11_lets_0 : decode cX11_lets 0 = .ok (.aload_n 0, 1) := by decide +kernel
theorem dX11_lets_1 : decode cX11_lets 1 = .ok (.iconst 0, 1) := by decide +kernel
theorem dX11_lets_2 : decode cX11_lets 2 = .ok (.putfield 120, 3) := by decide +kernel
theorem dX11_lets_5 : decode cX11_lets 5 = .ok (.aload_n 0, 1) := by decide +kernel
theorem dX11_lets_6 : decode cX11_lets 6 = .ok (.iload_n 1, 1) := by decide +kernel
theorem dX11_lets_7 : decode cX11_lets 7 = .ok (.invokevirtual 307, 3) := by decide +kernel
theorem dX11_lets_10 : decode cX11_lets 10 = .ok (.ifCond .eq 15, 3) := by decide +kernel
theorem dX11_lets_13 : decode cX11_lets 13 = .ok (.iload_n 2, 1) := by decide +kernel
theorem dX11_lets_14 : decode cX11_lets 14 = .ok (.i2l, 1) := by decide +kernel
theorem dX11_lets_15 : decode cX11_lets 15 = .ok (.lconst 0, 1) := by decide +kernel
theorem dX11_lets_16 : decode cX11_lets 16 = .ok (.ldc2_w 296, 3) := by decide +kernel
theorem dX11_lets_19 : decode cX11_lets 19 = .ok (.invokestatic 125, 3) := by decide +kernel
theorem dX11_lets_22 : decode cX11_lets 22 = .ok (.ifCond .ne 6, 3) := by decide +kernel
theorem dX11_lets_25 : decode cX11_lets 25 = .ok (.bipush (-2), 2) := by decide +kernel
theorem dX11_lets_27 : decode cX11_lets 27 = .ok (.ireturn, 1) := by decide +kernel
theorem dX11_lets_28 : decode cX11_lets 28 = .ok (.aload_n 0, 1) := by decide +kernel
theorem dX11_lets_29 : decode cX11_lets 29 = .ok (.invokevirtual 464, 3) := by decide +kernel
theorem dX11_lets_32 : decode cX11_lets 32 = .ok (.aload_n 0, 1) := by decide +kernel
theorem dX11_lets_33 : decode cX11_lets 33 = .ok (.getfield 90, 3) := by decide +kernel
theorem dX11_lets_36 : decode cX11_lets 36 = .ok (.iload_n 1, 1) := by decide +kernel
theorem dX11_lets_37 : decode cX11_lets 37 = .ok (.iaload, 1) := by decide +kernel
theorem dX11_lets_38 : decode cX11_lets 38 = .ok (.iconst (-1), 1) := by decide +kernel
theorem dX11_lets_39 : decode cX11_lets 39 = .ok (.if_icmp .ne 7, 3) := by decide +kernel
theorem dX11_lets_42 : decode cX11_lets 42 = .ok (.iconst (-1), 1) := by decide +kernel
theorem dX11_lets_43 : decode cX11_lets 43 = .ok (.goto 36, 3) := by decide +kernel
theorem dX11_lets_46 : decode cX11_lets 46 = .ok (.iload_n 2, 1) := by decide +kernel
theorem dX11_lets_47 : decode cX11_lets 47 = .ok (.ifCond .ne 12, 3) := by decide +kernel
theorem dX11_lets_50 : decode cX11_lets 50 = .ok (.aload_n 0, 1) := by decide +kernel
theorem dX11_lets_51 : decode cX11_lets 51 = .ok (.getfield 90, 3) := by decide +kernel
theorem dX11_lets_54 : decode cX11_lets 54 = .ok (.iload_n 1, 1) := by decide +kernel
theorem dX11_lets_55 : decode cX11_lets 55 = .ok (.iaload, 1) := by decide +kernel
theorem dX11_lets_56 : decode cX11_lets 56 = .ok (.goto 23, 3) := by decide +kernel
theorem dX11_lets_59 : decode cX11_lets 59 = .ok (.iload_n 2, 1) := by decide +kernel
theorem dX11_lets_60 : decode cX11_lets 60 = .ok (.iconst 1, 1) := by decide +kernel
theorem dX11_lets_61 : decode cX11_lets 61 = .ok (.if_icmp .ne 12, 3) := by decide +kernel
theorem dX11_lets_64 : decode cX11_lets 64 = .ok (.aload_n 0, 1) := by decide +kernel
theorem dX11_lets_65 : decode cX11_lets 65 = .ok (.getfield 93, 3) := by decide +kernel
theorem dX11_lets_68 : decode cX11_lets 68 = .ok (.iload_n 1, 1) := by decide +kernel
theorem dX11_lets_69 : decode cX11_lets 69 = .ok (.iaload, 1) := by decide +kernel
theorem dX11_lets_70 : decode cX11_lets 70 = .ok (.goto 9, 3) := by decide +kernel
theorem dX11_lets_73 : decode cX11_lets 73 = .ok (.aload_n 0, 1) := by decide +kernel
theorem dX11_lets_74 : decode cX11_lets 74 = .ok (.getfield 96, 3) := by decide +kernel
theorem dX11_lets_77 : decode cX11_lets 77 = .ok (.iload_n 1, 1) := by decide +kernel
theorem dX11_lets_78 : decode cX11_lets 78 = .ok (.iaload, 1) := by decide +kernel
theorem dX11_lets_79 : decode cX11_lets 79 = .ok (.ireturn, 1) := by decide +kernel
set_option maxRecDepth 20000 in
theorem ggX11_comes_X11_isCoach : GoodIn wsX11_comes wsX11_isCoach := goodIn_r _ [11, 12, 13, 14, 10, 15, 167, 168, 169, 170, 171, 172, 173, 174, 175, 176, 177, 178, 179, 180, 181, 182, 183, 184, 185, 186, 187, 188, 189, 190, 191, 192, 193, 194, 195, 196, 197, 198, 199, 200, 201, 202, 203, 204, 205, 206, 207, 208, 209, 210, 211, 212, 213, 214, 215, 216, 217, 218, 219, 220, 221, 222, 223, 224] (by decide +kernel) (by decide +kernel)
set_option maxRecDepth 20000 in
theorem gX11_comes_X11_isCoach : GoodIn wsX11_comes (wsV RX11 307 RX11 yX11_isCoach wsX11_isCoach) := goodIn_app (goodIn_of _ (by decide +kernel)) ggX11_comes_X11_isCoach
theorem dX11_comes_0 : decode cX11_comes 0 = .ok (.aload_n 0, 1) := by decide +kernel
theorem dX11_comes_1 : decode cX11_comes 1 = .ok (.iconst 0, 1) := by decide +kernel
theorem dX11_comes_2 : decode cX11_comes 2 = .ok (.putfield 120, 3) := by decide +kernel
theorem dX11_comes_5 : decode cX11_comes 5 = .ok (.aload_n 0, 1) := by decide +kernel
theorem dX11_comes_6 : decode cX11_comes 6 = .ok (.iload_n 1, 1) := by decide +kernel
theorem dX11_comes_7 : decode cX11_comes 7 = .ok (.invokevirtual 307, 3) := by decide +kernel
theorem dX11_comes_10 : decode cX11_comes 10 = .ok (.ifCond .eq 15, 3) := by decide +kernel
theorem dX11_comes_13 : decode cX11_comes 13 = .ok (.iload_n 2, 1) := by decide +kernel
theorem dX11_comes_14 : decode cX11_comes 14 = .ok (.i2l, 1) := by decide +kernel
theorem dX11_comes_15 : decode cX11_comes 15 = .ok (.lconst 0, 1) := by decide +kernel
theorem dX11_comes_16 : decode cX11_comes 16 = .ok (.ldc2_w 296, 3) := by decide +kernel
theorem dX11_comes_19 : decode cX11_comes 19 = .ok (.invokestatic 125, 3) := by decide +kernel
theorem dX11_comes_22 : decode cX11_comes 22 = .ok (.ifCond .ne 6, 3) := by decide +kernel
theorem dX11_comes_25 : decode cX11_comes 25 = .ok (.bipush (-2), 2) := by decide +kernel
theorem dX11_comes_27 : decode cX11_comes 27 = .ok (.ireturn, 1) := by decide +kernel
theorem dX11_comes_28 : decode cX11_comes 28 = .ok (.aload_n 0, 1) := by decide +kernel
theorem dX11_comes_29 : decode cX11_comes 29 = .ok (.invokevirtual 464, 3) := by decide +kernel
theorem dX11_comes_32 : decode cX11_comes 32 = .ok (.aload_n 0, 1) := by decide +kernel
theorem dX11_comes_33 : decode cX11_comes 33 = .ok (.getfield 90, 3) := by decide +kernel
theorem dX11_comes_36 : decode cX11_comes 36 = .ok (.iload_n 1, 1) := by decide +kernel
theorem dX11_comes_37 : decode cX11_comes 37 = .ok (.iaload, 1) := by decide +kernel
theorem dX11_comes_38 : decode cX11_comes 38 = .ok (.iconst (-1), 1) := by decide +kernel
theorem dX11_comes_39 : decode cX11_comes 39 = .ok (.if_icmp .eq 13, 3) := by decide +kernel
theorem dX11_comes_42 : decode cX11_comes 42 = .ok (.aload_n 0, 1) := by decide +kernel
theorem dX11_comes_43 : decode cX11_comes 43 = .ok (.getfield 105, 3) := by decide +kernel
theorem dX11_comes_46 : decode cX11_comes 46 = .ok (.iload_n 1, 1) := by decide +kernel
theorem dX11_comes_47 : decode cX11_comes 47 = .ok (.iaload, 1) := by decide +kernel
theorem dX11_comes_48 : decode cX11_comes 48 = .ok (.iconst (-1), 1) := by decide +kernel
theorem dX11_comes_49 : decode cX11_comes 49 = .ok (.if_icmp .ne 16, 3) := by decide +kernel
theorem dX11_comes_52 : decode cX11_comes 52 = .ok (.iload_n 2, 1) := by decide +kernel
theorem dX11_comes_53 : decode cX11_comes 53 = .ok (.iconst 2, 1) := by decide +kernel
theorem dX11_comes_54 : decode cX11_comes 54 = .ok (.if_icmp .ne 9, 3) := by decide +kernel
theorem dX11_comes_57 : decode cX11_comes 57 = .ok (.ldc_w 389, 3) := by decide +kernel
theorem dX11_comes_60 : decode cX11_comes 60 = .ok (.goto 4, 3) := by decide +kernel
theorem dX11_comes_63 : decode cX11_comes 63 = .ok (.iconst (-1), 1) := by decide +kernel
theorem dX11_comes_64 : decode cX11_comes 64 = .ok (.ireturn, 1) := by decide +kernel
theorem dX11_comes_65 : decode cX11_comes 65 = .ok (.iload_n 2, 1) := by decide +kernel
theorem dX11_comes_66 : decode cX11_comes 66 = .ok (.ifCond .ne 12, 3) := by decide +kernel
theorem dX11_comes_69 : decode cX11_comes 69 = .ok (.aload_n 0, 1) := by decide +kernel
theorem dX11_comes_70 : decode cX11_comes 70 = .ok (.getfield 99, 3) := by decide +kernel
theorem dX11_comes_73 : decode cX11_comes 73 = .ok (.iload_n 1, 1) := by decide +kernel
theorem dX11_comes_74 : decode cX11_comes 74 = .ok (.iaload, 1) := by decide +kernel
theorem dX11_comes_75 : decode cX11_comes 75 = .ok (.goto 22, 3) := by decide +kernel
theorem dX11_comes_78 : decode cX11_comes 78 = .ok (.iload_n 2, 1) := by decide +kernel
theorem dX11_comes_79 : decode cX11_comes 79 = .ok (.iconst 1, 1) := by decide +kernel
theorem dX11_comes_80 : decode cX11_comes 80 = .ok (.if_icmp .ne 12, 3) := by decide +kernel
theorem dX11_comes_83 : decode cX11_comes 83 = .ok (.aload_n 0, 1) := by decide +kernel
theorem dX11_comes_84 : decode cX11_comes 84 = .ok (.getfield 105, 3) := by decide +kernel
theorem dX11_comes_87 : decode cX11_comes 87 = .ok (.iload_n 1, 1) := by decide +kernel
theorem dX11_comes_88 : decode cX11_comes 88 = .ok (.iaload, 1) := by decide +kernel
theorem dX11_comes_89 : decode cX11_comes 89 = .ok (.goto 8, 3) := by decide +kernel
theorem dX11_comes_92 : decode cX11_comes 92 = .ok (.aload_n 0, 1) := by decide +kernel
theorem dX11_comes_93 : decode cX11_comes 93 = .ok (.iload_n 1, 1) := by decide +kernel
theorem dX11_comes_94 : decode cX11_comes 94 = .ok (.invokevirtual 467, 3) := by decide +kernel
theorem dX11_comes_97 : decode cX11_comes 97 = .ok (.ireturn, 1) := by decide +kernel
set_option maxRecDepth 20000 in
theorem ggX11_clear_X11_isCoach : GoodIn wsX11_clear wsX11_isCoach := goodIn_r _ [10, 11, 12, 13, 9, 14, 161, 162, 163, 164, 165, 166, 167, 168, 169, 170, 171, 172, 173, 174, 175, 176, 177, 178, 179, 180, 181, 182, 183, 184, 185, 186, 187, 188, 189, 190, 191, 192, 193, 194, 195, 196, 197, 198, 199, 200, 201, 202, 203, 204, 205, 206, 207, 208, 209, 210, 211, 212, 213, 214, 215, 216, 217, 218] (by decide +kernel) (by decide +kernel)
set_option maxRecDepth 20000 in
theorem gX11_clear_X11_isCoach : GoodIn wsX11_clear (wsV RX11 307 RX11 yX11_isCoach wsX11_isCoach) := goodIn_app (goodIn_of _ (by decide +kernel)) ggX11_clear_X11_isCoach
theorem dX11_clear_0 : decode cX11_clear 0 = .ok (.aload_n 0, 1) := by decide +kernel
theorem dX11_clear_1 : decode cX11_clear 1 = .ok (.iconst 0, 1) := by decide +kernel
theorem dX11_clear_2 : decode cX11_clear 2 = .ok (.putfield 120, 3) := by decide +kernel
theorem dX11_clear_5 : decode cX11_clear 5 = .ok (.aload_n 0, 1) := by decide +kernel
theorem dX11_clear_6 : decode cX11_clear 6 = .ok (.iload_n 1, 1) := by decide +kernel
theorem dX11_clear_7 : decode cX11_clear 7 = .ok (.invokevirtual 307, 3) := by decide +kernel
theorem dX11_clear_10 : decode cX11_clear 10 = .ok (.ifCond .ne 6, 3) := by decide +kernel
theorem dX11_clear_13 : decode cX11_clear 13 = .ok (.bipush (-2), 2) := by decide +kernel
theorem dX11_clear_15 : decode cX11_clear 15 = .ok (.ireturn, 1) := by decide +kernel
theorem dX11_clear_16 : decode cX11_clear 16 = .ok (.aload_n 0, 1) := by decide +kernel
theorem dX11_clear_17 : decode cX11_clear 17 = .ok (.invokevirtual 464, 3) := by decide +kernel
theorem dX11_clear_20 : decode cX11_clear 20 = .ok (.aload_n 0, 1) := by decide +kernel
theorem dX11_clear_21 : decode cX11_clear 21 = .ok (.getfield 90, 3) := by decide +kernel
theorem dX11_clear_24 : decode cX11_clear 24 = .ok (.iload_n 1, 1) := by decide +kernel
theorem dX11_clear_25 : decode cX11_clear 25 = .ok (.iaload, 1) := by decide +kernel
theorem dX11_clear_26 : decode cX11_clear 26 = .ok (.iconst (-1), 1) := by decide +kernel
theorem dX11_clear_27 : decode cX11_clear 27 = .ok (.if_icmp .ne 7, 3) := by decide +kernel
theorem dX11_clear_30 : decode cX11_clear 30 = .ok (.iconst (-1), 1) := by decide +kernel
theorem dX11_clear_31 : decode cX11_clear 31 = .ok (.goto 39, 3) := by decide +kernel
theorem dX11_clear_34 : decode cX11_clear 34 = .ok (.aload_n 0, 1) := by decide +kernel
theorem dX11_clear_35 : decode cX11_clear 35 = .ok (.getfield 108, 3) := by decide +kernel
theorem dX11_clear_38 : decode cX11_clear 38 = .ok (.iload_n 1, 1) := by decide +kernel
theorem dX11_clear_39 : decode cX11_clear 39 = .ok (.baload, 1) := by decide +kernel
theorem dX11_clear_40 : decode cX11_clear 40 = .ok (.ifCond .eq 12, 3) := by decide +kernel
theorem dX11_clear_43 : decode cX11_clear 43 = .ok (.aload_n 0, 1) := by decide +kernel
theorem dX11_clear_44 : decode cX11_clear 44 = .ok (.getfield 111, 3) := by decide +kernel
theorem dX11_clear_47 : decode cX11_clear 47 = .ok (.iload_n 1, 1) := by decide +kernel
theorem dX11_clear_48 : decode cX11_clear 48 = .ok (.iaload, 1) := by decide +kernel
theorem dX11_clear_49 : decode cX11_clear 49 = .ok (.goto 21, 3) := by decide +kernel
theorem dX11_clear_52 : decode cX11_clear 52 = .ok (.aload_n 0, 1) := by decide +kernel
theorem dX11_clear_53 : decode cX11_clear 53 = .ok (.iload_n 1, 1) := by decide +kernel
theorem dX11_clear_54 : decode cX11_clear 54 = .ok (.invokevirtual 440, 3) := by decide +kernel
theorem dX11_clear_57 : decode cX11_clear 57 = .ok (.ifCond .eq 12, 3) := by decide +kernel
theorem dX11_clear_60 : decode cX11_clear 60 = .ok (.aload_n 0, 1) := by decide +kernel
theorem dX11_clear_61 : decode cX11_clear 61 = .ok (.getfield 105, 3) := by decide +kernel
theorem dX11_clear_64 : decode cX11_clear 64 = .ok (.iload_n 1, 1) := by decide +kernel
theorem dX11_clear_65 : decode cX11_clear 65 = .ok (.iaload, 1) := by decide +kernel
theorem dX11_clear_66 : decode cX11_clear 66 = .ok (.goto 4, 3) := by decide +kernel
theorem dX11_clear_69 : decode cX11_clear 69 = .ok (.iconst (-1), 1) := by decide +kernel
theorem dX11_clear_70 : decode cX11_clear 70 = .ok (.ireturn, 1) := by decide +kernel
set_option maxRecDepth 20000 in
theorem ggX11_good_X11_isLine : GoodIn wsX11_good wsX11_isLine := goodIn_r _ [6, 7, 168, 169, 170, 171, 172, 173, 174, 175, 176, 177, 178, 179, 180, 181, 182, 183, 184, 185, 186, 187, 188, 189, 190, 191, 192, 193, 194, 195, 196, 197, 198, 199, 200, 201, 202, 203, 204, 205, 206, 207, 208, 209, 210, 211, 212, 213, 214, 215, 216, 217, 218, 219, 220, 221, 222, 223, 224, 225] (by decide +kernel) (by decide +kernel)
set_option maxRecDepth 20000 in
theorem gX11_good_X11_isLine : GoodIn wsX11_good (wsV RX11 290 RX11 yX11_isLine wsX11_isLine) := goodIn_app (goodIn_of _ (by decide +kernel)) ggX11_good_X11_isLine
theorem dX11_good_0 : decode cX11_good 0 = .ok (.aload_n 0, 1) := by decide +kernel
theorem dX11_good_1 : decode cX11_good 1 = .ok (.iconst 0, 1) := by decide +kernel
theorem dX11_good_2 : decode cX11_good 2 = .ok (.putfield 120, 3) := by decide +kernel
theorem dX11_good_5 : decode cX11_good 5 = .ok (.aload_n 0, 1) := by decide +kernel
theorem dX11_good_6 : decode cX11_good 6 = .ok (.invokevirtual 290, 3) := by decide +kernel
theorem dX11_good_9 : decode cX11_good 9 = .ok (.ifCond .ne 5, 3) := by decide +kernel
theorem dX11_good_12 : decode cX11_good 12 = .ok (.iconst (-1), 1) := by decide +kernel
theorem dX11_good_13 : decode cX11_good 13 = .ok (.ireturn, 1) := by decide +kernel
theorem dX11_good_14 : decode cX11_good 14 = .ok (.aload_n 0, 1) := by decide +kernel
theorem dX11_good_15 : decode cX11_good 15 = .ok (.invokevirtual 464, 3) := by decide +kernel
theorem dX11_good_18 : decode cX11_good 18 = .ok (.aload_n 0, 1) := by decide +kernel
theorem dX11_good_19 : decode cX11_good 19 = .ok (.invokevirtual 470, 3) := by decide +kernel
theorem dX11_good_22 : decode cX11_good 22 = .ok (.invokestatic 473, 3) := by decide +kernel
theorem dX11_good_25 : decode cX11_good 25 = .ok (.ireturn, 1) := by decide +kernel
set_option maxRecDepth 20000 in
theorem ggX11_breach_X11_isLine : GoodIn wsX11_breach wsX11_isLine := goodIn_r _ [10, 11, 162, 163, 164, 165, 166, 167, 168, 169, 170, 171, 172, 173, 174, 175, 176, 177, 178, 179, 180, 181, 182, 183, 184, 185, 186, 187, 188, 189, 190, 191, 192, 193, 194, 195, 196, 197, 198, 199, 200, 201, 202, 203, 204, 205, 206, 207, 208, 209, 210, 211, 212, 213, 214, 215, 216, 217, 218, 219] (by decide +kernel) (by decide +kernel)
set_option maxRecDepth 20000 in
theorem gX11_breach_X11_isLine : GoodIn wsX11_breach (wsV RX11 290 RX11 yX11_isLine wsX11_isLine) := goodIn_app (goodIn_of _ (by decide +kernel)) ggX11_breach_X11_isLine
theorem dX11_breach_0 : decode cX11_breach 0 = .ok (.aload_n 0, 1) := by decide +kernel
theorem dX11_breach_1 : decode cX11_breach 1 = .ok (.iconst 0, 1) := by decide +kernel
theorem dX11_breach_2 : decode cX11_breach 2 = .ok (.putfield 120, 3) := by decide +kernel
theorem dX11_breach_5 : decode cX11_breach 5 = .ok (.aload_n 0, 1) := by decide +kernel
theorem dX11_breach_6 : decode cX11_breach 6 = .ok (.invokevirtual 290, 3) := by decide +kernel
theorem dX11_breach_9 : decode cX11_breach 9 = .ok (.ifCond .eq 15, 3) := by decide +kernel
theorem dX11_breach_12 : decode cX11_breach 12 = .ok (.iload_n 1, 1) := by decide +kernel
theorem dX11_breach_13 : decode cX11_breach 13 = .ok (.i2l, 1) := by decide +kernel
theorem dX11_breach_14 : decode cX11_breach 14 = .ok (.lconst 0, 1) := by decide +kernel
theorem dX11_breach_15 : decode cX11_breach 15 = .ok (.ldc2_w 296, 3) := by decide +kernel
theorem dX11_breach_18 : decode cX11_breach 18 = .ok (.invokestatic 125, 3) := by decide +kernel
theorem dX11_breach_21 : decode cX11_breach 21 = .ok (.ifCond .ne 6, 3) := by decide +kernel
theorem dX11_breach_24 : decode cX11_breach 24 = .ok (.bipush (-2), 2) := by decide +kernel
theorem dX11_breach_26 : decode cX11_breach 26 = .ok (.ireturn, 1) := by decide +kernel
theorem dX11_breach_27 : decode cX11_breach 27 = .ok (.aload_n 0, 1) := by decide +kernel
theorem dX11_breach_28 : decode cX11_breach 28 = .ok (.invokevirtual 464, 3) := by decide +kernel
theorem dX11_breach_31 : decode cX11_breach 31 = .ok (.iload_n 1, 1) := by decide +kernel
theorem dX11_breach_32 : decode cX11_breach 32 = .ok (.ifCond .ne 10, 3) := by decide +kernel
theorem dX11_breach_35 : decode cX11_breach 35 = .ok (.aload_n 0, 1) := by decide +kernel
theorem dX11_breach_36 : decode cX11_breach 36 = .ok (.getfield 401, 3) := by decide +kernel
theorem dX11_breach_39 : decode cX11_breach 39 = .ok (.goto 19, 3) := by decide +kernel
theorem dX11_breach_42 : decode cX11_breach 42 = .ok (.iload_n 1, 1) := by decide +kernel
theorem dX11_breach_43 : decode cX11_breach 43 = .ok (.iconst 1, 1) := by decide +kernel
theorem dX11_breach_44 : decode cX11_breach 44 = .ok (.if_icmp .ne 10, 3) := by decide +kernel
theorem dX11_breach_47 : decode cX11_breach 47 = .ok (.aload_n 0, 1) := by decide +kernel
theorem dX11_breach_48 : decode cX11_breach 48 = .ok (.getfield 404, 3) := by decide +kernel
theorem dX11_breach_51 : decode cX11_breach 51 = .ok (.goto 7, 3) := by decide +kernel
theorem dX11_breach_54 : decode cX11_breach 54 = .ok (.aload_n 0, 1) := by decide +kernel
theorem dX11_breach_55 : decode cX11_breach 55 = .ok (.getfield 407, 3) := by decide +kernel
theorem dX11_breach_58 : decode cX11_breach 58 = .ok (.ireturn, 1) := by decide +kernel
set_option maxRecDepth 20000 in
theorem ggX11_mistake_X11_isLine : GoodIn wsX11_mistake wsX11_isLine := goodIn_r _ [9, 10, 163, 164, 165, 166, 167, 168, 169, 170, 171, 172, 173, 174, 175, 176, 177, 178, 179, 180, 181, 182, 183, 184, 185, 186, 187, 188, 189, 190, 191, 192, 193, 194, 195, 196, 197, 198, 199, 200, 201, 202, 203, 204, 205, 206, 207, 208, 209, 210, 211, 212, 213, 214, 215, 216, 217, 218, 219, 220] (by decide +kernel) (by decide +kernel)
set_option maxRecDepth 20000 in
theorem gX11_mistake_X11_isLine : GoodIn wsX11_mistake (wsV RX11 290 RX11 yX11_isLine wsX11_isLine) := goodIn_app (goodIn_of _ (by decide +kernel)) ggX11_mistake_X11_isLine
theorem dX11_mistake_0 : decode cX11_mistake 0 = .ok (.aload_n 0, 1) := by decide +kernel
theorem dX11_mistake_1 : decode cX11_mistake 1 = .ok (.iconst 0, 1) := by decide +kernel
theorem dX11_mistake_2 : decode cX11_mistake 2 = .ok (.putfield 120, 3) := by decide +kernel
theorem dX11_mistake_5 : decode cX11_mistake 5 = .ok (.aload_n 0, 1) := by decide +kernel
theorem dX11_mistake_6 : decode cX11_mistake 6 = .ok (.invokevirtual 290, 3) := by decide +kernel
theorem dX11_mistake_9 : decode cX11_mistake 9 = .ok (.ifCond .eq 27, 3) := by decide +kernel
theorem dX11_mistake_12 : decode cX11_mistake 12 = .ok (.iload_n 1, 1) := by decide +kernel
theorem dX11_mistake_13 : decode cX11_mistake 13 = .ok (.i2l, 1) := by decide +kernel
theorem dX11_mistake_14 : decode cX11_mistake 14 = .ok (.lconst 0, 1) := by decide +kernel
theorem dX11_mistake_15 : decode cX11_mistake 15 = .ok (.ldc2_w 296, 3) := by decide +kernel
theorem dX11_mistake_18 : decode cX11_mistake 18 = .ok (.invokestatic 125, 3) := by decide +kernel
theorem dX11_mistake_21 : decode cX11_mistake 21 = .ok (.ifCond .eq 15, 3) := by decide +kernel
theorem dX11_mistake_24 : decode cX11_mistake 24 = .ok (.iload_n 2, 1) := by decide +kernel
theorem dX11_mistake_25 : decode cX11_mistake 25 = .ok (.i2l, 1) := by decide +kernel
theorem dX11_mistake_26 : decode cX11_mistake 26 = .ok (.lconst 0, 1) := by decide +kernel
theorem dX11_mistake_27 : decode cX11_mistake 27 = .ok (.ldc2_w 476, 3) := by decide +kernel
theorem dX11_mistake_30 : decode cX11_mistake 30 = .ok (.invokestatic 125, 3) := by decide +kernel
theorem dX11_mistake_33 : decode cX11_mistake 33 = .ok (.ifCond .ne 6, 3) := by decide +kernel
theorem dX11_mistake_36 : decode cX11_mistake 36 = .ok (.bipush (-2), 2) := by decide +kernel
theorem dX11_mistake_38 : decode cX11_mistake 38 = .ok (.ireturn, 1) := by decide +kernel
theorem dX11_mistake_39 : decode cX11_mistake 39 = .ok (.aload_n 0, 1) := by decide +kernel
theorem dX11_mistake_40 : decode cX11_mistake 40 = .ok (.invokevirtual 455, 3) := by decide +kernel
theorem dX11_mistake_43 : decode cX11_mistake 43 = .ok (.iconst 0, 1) := by decide +kernel
theorem dX11_mistake_44 : decode cX11_mistake 44 = .ok (.istore_n 3, 1) := by decide +kernel
theorem dX11_mistake_45 : decode cX11_mistake 45 = .ok (.iload_n 3, 1) := by decide +kernel
theorem dX11_mistake_46 : decode cX11_mistake 46 = .ok (.aload_n 0, 1) := by decide +kernel
theorem dX11_mistake_47 : decode cX11_mistake 47 = .ok (.getfield 40, 3) := by decide +kernel
theorem dX11_mistake_50 : decode cX11_mistake 50 = .ok (.bipush 6, 2) := by decide +kernel
theorem dX11_mistake_52 : decode cX11_mistake 52 = .ok (.iaload, 1) := by decide +kernel
theorem dX11_mistake_53 : decode cX11_mistake 53 = .ok (.if_icmp .ge 21, 3) := by decide +kernel
theorem dX11_mistake_56 : decode cX11_mistake 56 = .ok (.aload_n 0, 1) := by decide +kernel
theorem dX11_mistake_57 : decode cX11_mistake 57 = .ok (.iload_n 3, 1) := by decide +kernel
theorem dX11_mistake_58 : decode cX11_mistake 58 = .ok (.iload_n 1, 1) := by decide +kernel

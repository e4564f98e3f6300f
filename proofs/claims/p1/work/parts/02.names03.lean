theorem dX10_start_51 : decode cX10_start 51 = .ok (.sipush 300, 3) := by decide +kernel
theorem dX10_start_54 : decode cX10_start 54 = .ok (.if_icmp .gt 67, 3) := by decide +kernel
theorem dX10_start_57 : decode cX10_start 57 = .ok (.iload_n 3, 1) := by decide +kernel
theorem dX10_start_58 : decode cX10_start 58 = .ok (.iconst (-1), 1) := by decide +kernel
theorem dX10_start_59 : decode cX10_start 59 = .ok (.if_icmp .ne 62, 3) := by decide +kernel
theorem dX10_start_62 : decode cX10_start 62 = .ok (.iload 4, 2) := by decide +kernel
theorem dX10_start_64 : decode cX10_start 64 = .ok (.ifCond .ne 57, 3) := by decide +kernel
theorem dX10_start_67 : decode cX10_start 67 = .ok (.aload_n 0, 1) := by decide +kernel
theorem dX10_start_68 : decode cX10_start 68 = .ok (.getfield 27, 3) := by decide +kernel
theorem dX10_start_71 : decode cX10_start 71 = .ok (.getfield 193, 3) := by decide +kernel
theorem dX10_start_74 : decode cX10_start 74 = .ok (.iload_n 1, 1) := by decide +kernel
theorem dX10_start_75 : decode cX10_start 75 = .ok (.iconst 0, 1) := by decide +kernel
theorem dX10_start_76 : decode cX10_start 76 = .ok (.iload 5, 2) := by decide +kernel
theorem dX10_start_78 : decode cX10_start 78 = .ok (.invokevirtual 189, 3) := by decide +kernel
theorem dX10_start_81 : decode cX10_start 81 = .ok (.aload_n 0, 1) := by decide +kernel
theorem dX10_start_82 : decode cX10_start 82 = .ok (.getfield 89, 3) := by decide +kernel
theorem dX10_start_85 : decode cX10_start 85 = .ok (.invokevirtual 333, 3) := by decide +kernel
theorem dX10_start_88 : decode cX10_start 88 = .ok (.ifCond .eq 24, 3) := by decide +kernel
theorem dX10_start_91 : decode cX10_start 91 = .ok (.aload_n 0, 1) := by decide +kernel
theorem dX10_start_92 : decode cX10_start 92 = .ok (.getfield 89, 3) := by decide +kernel
theorem dX10_start_95 : decode cX10_start 95 = .ok (.iload_n 1, 1) := by decide +kernel
theorem dX10_start_96 : decode cX10_start 96 = .ok (.invokevirtual 357, 3) := by decide +kernel
theorem dX10_start_99 : decode cX10_start 99 = .ok (.ifCond .ne 7, 3) := by decide +kernel
theorem dX10_start_102 : decode cX10_start 102 = .ok (.iconst 1, 1) := by decide +kernel
theorem dX10_start_103 : decode cX10_start 103 = .ok (.goto 4, 3) := by decide +kernel
theorem dX10_start_106 : decode cX10_start 106 = .ok (.iconst 0, 1) := by decide +kernel
theorem dX10_start_107 : decode cX10_start 107 = .ok (.istore 4, 2) := by decide +kernel
theorem dX10_start_109 : decode cX10_start 109 = .ok (.goto 6, 3) := by decide +kernel
theorem dX10_start_112 : decode cX10_start 112 = .ok (.iload 5, 2) := by decide +kernel
theorem dX10_start_114 : decode cX10_start 114 = .ok (.istore_n 3, 1) := by decide +kernel
theorem dX10_start_115 : decode cX10_start 115 = .ok (.iinc 5 1, 3) := by decide +kernel
theorem dX10_start_118 : decode cX10_start 118 = .ok (.goto (-69), 3) := by decide +kernel
theorem dX10_start_121 : decode cX10_start 121 = .ok (.aload_n 0, 1) := by decide +kernel
theorem dX10_start_122 : decode cX10_start 122 = .ok (.getfield 27, 3) := by decide +kernel
theorem dX10_start_125 : decode cX10_start 125 = .ok (.getfield 193, 3) := by decide +kernel
theorem dX10_start_128 : decode cX10_start 128 = .ok (.iload_n 1, 1) := by decide +kernel
theorem dX10_start_129 : decode cX10_start 129 = .ok (.iconst 0, 1) := by decide +kernel
theorem dX10_start_130 : decode cX10_start 130 = .ok (.iload_n 2, 1) := by decide +kernel
theorem dX10_start_131 : decode cX10_start 131 = .ok (.invokevirtual 189, 3) := by decide +kernel
theorem dX10_start_134 : decode cX10_start 134 = .ok (.iload_n 3, 1) := by decide +kernel
theorem dX10_start_135 : decode cX10_start 135 = .ok (.ireturn, 1) := by decide +kernel
set_option maxRecDepth 20000 in
theorem ggX10_days_X10_hasDay : GoodIn wsX10_days wsX10_hasDay := goodIn_r _ [7, 8, 9, 10, 11, 6, 12, 13, 14, 15, 16, 17, 286, 287, 288, 289, 290, 291, 292, 293, 294, 295, 296, 297, 298, 299, 300, 301, 302, 303, 304, 305, 306, 307, 308, 309] (by decide +kernel) (by decide +kernel)
set_option maxRecDepth 20000 in
theorem gX10_days_X10_hasDay : GoodIn wsX10_days (wsV RX10 360 RX10 yX10_hasDay wsX10_hasDay) := goodIn_app (goodIn_of _ (by decide +kernel)) ggX10_days_X10_hasDay
theorem dX10_days_0 : decode cX10_days 0 = .ok (.aload_n 0, 1) := by decide +kernel
theorem dX10_days_1 : decode cX10_days 1 = .ok (.iload_n 1, 1) := by decide +kernel
theorem dX10_days_2 : decode cX10_days 2 = .ok (.iload_n 3, 1) := by decide +kernel
theorem dX10_days_3 : decode cX10_days 3 = .ok (.iload 4, 2) := by decide +kernel
theorem dX10_days_5 : decode cX10_days 5 = .ok (.invokevirtual 360, 3) := by decide +kernel
theorem dX10_days_8 : decode cX10_days 8 = .ok (.ifCond .eq 13, 3) := by decide +kernel
theorem dX10_days_11 : decode cX10_days 11 = .ok (.iload_n 2, 1) := by decide +kernel
theorem dX10_days_12 : decode cX10_days 12 = .ok (.iconst 1, 1) := by decide +kernel
theorem dX10_days_13 : decode cX10_days 13 = .ok (.bipush 20, 2) := by decide +kernel
theorem dX10_days_15 : decode cX10_days 15 = .ok (.invokestatic 176, 3) := by decide +kernel
theorem dX10_days_18 : decode cX10_days 18 = .ok (.ifCond .ne 6, 3) := by decide +kernel
theorem dX10_days_21 : decode cX10_days 21 = .ok (.bipush (-2), 2) := by decide +kernel
theorem dX10_days_23 : decode cX10_days 23 = .ok (.ireturn, 1) := by decide +kernel
theorem dX10_days_24 : decode cX10_days 24 = .ok (.aload_n 0, 1) := by decide +kernel
theorem dX10_days_25 : decode cX10_days 25 = .ok (.invokevirtual 318, 3) := by decide +kernel
theorem dX10_days_28 : decode cX10_days 28 = .ok (.iconst 0, 1) := by decide +kernel
theorem dX10_days_29 : decode cX10_days 29 = .ok (.istore 5, 2) := by decide +kernel
theorem dX10_days_31 : decode cX10_days 31 = .ok (.iconst 0, 1) := by decide +kernel
theorem dX10_days_32 : decode cX10_days 32 = .ok (.istore 6, 2) := by decide +kernel
theorem dX10_days_34 : decode cX10_days 34 = .ok (.iload 6, 2) := by decide +kernel
theorem dX10_days_36 : decode cX10_days 36 = .ok (.iload_n 2, 1) := by decide +kernel
theorem dX10_days_37 : decode cX10_days 37 = .ok (.if_icmp .ge 40, 3) := by decide +kernel
theorem dX10_days_40 : decode cX10_days 40 = .ok (.aload_n 0, 1) := by decide +kernel
theorem dX10_days_41 : decode cX10_days 41 = .ok (.iload_n 1, 1) := by decide +kernel
theorem dX10_days_42 : decode cX10_days 42 = .ok (.iload 6, 2) := by decide +kernel
theorem dX10_days_44 : decode cX10_days 44 = .ok (.iadd, 1) := by decide +kernel
theorem dX10_days_45 : decode cX10_days 45 = .ok (.iload_n 3, 1) := by decide +kernel
theorem dX10_days_46 : decode cX10_days 46 = .ok (.iload 4, 2) := by decide +kernel
theorem dX10_days_48 : decode cX10_days 48 = .ok (.invokevirtual 363, 3) := by decide +kernel
theorem dX10_days_51 : decode cX10_days 51 = .ok (.aload_n 0, 1) := by decide +kernel
theorem dX10_days_52 : decode cX10_days 52 = .ok (.getfield 80, 3) := by decide +kernel
theorem dX10_days_55 : decode cX10_days 55 = .ok (.invokevirtual 321, 3) := by decide +kernel
theorem dX10_days_58 : decode cX10_days 58 = .ok (.aload_n 0, 1) := by decide +kernel
theorem dX10_days_59 : decode cX10_days 59 = .ok (.getfield 89, 3) := by decide +kernel
theorem dX10_days_62 : decode cX10_days 62 = .ok (.invokevirtual 333, 3) := by decide +kernel
theorem dX10_days_65 : decode cX10_days 65 = .ok (.ifCond .eq 6, 3) := by decide +kernel
theorem dX10_days_68 : decode cX10_days 68 = .ok (.iinc 5 1, 3) := by decide +kernel
theorem dX10_days_71 : decode cX10_days 71 = .ok (.iinc 6 1, 3) := by decide +kernel
theorem dX10_days_74 : decode cX10_days 74 = .ok (.goto (-40), 3) := by decide +kernel
theorem dX10_days_77 : decode cX10_days 77 = .ok (.aload_n 0, 1) := by decide +kernel
theorem dX10_days_78 : decode cX10_days 78 = .ok (.getfield 80, 3) := by decide +kernel
theorem dX10_days_81 : decode cX10_days 81 = .ok (.invokevirtual 354, 3) := by decide +kernel
theorem dX10_days_84 : decode cX10_days 84 = .ok (.iload 5, 2) := by decide +kernel
theorem dX10_days_86 : decode cX10_days 86 = .ok (.ireturn, 1) := by decide +kernel
set_option maxRecDepth 20000 in
theorem ggX10_day_X10_hasDay : GoodIn wsX10_day wsX10_hasDay := goodIn_r _ [6, 7, 8, 9, 10, 5, 11, 12, 13, 14, 15, 16, 214, 215, 216, 217, 218, 219, 220, 221, 222, 223, 224, 225, 226, 227, 228, 229, 230, 231, 232, 233, 234, 235, 236, 237] (by decide +kernel) (by decide +kernel)
set_option maxRecDepth 20000 in
theorem gX10_day_X10_hasDay : GoodIn wsX10_day (wsV RX10 360 RX10 yX10_hasDay wsX10_hasDay) := goodIn_app (goodIn_of _ (by decide +kernel)) ggX10_day_X10_hasDay
theorem dX10_day_0 : decode cX10_day 0 = .ok (.aload_n 0, 1) := by decide +kernel
theorem dX10_day_1 : decode cX10_day 1 = .ok (.iload_n 1, 1) := by decide +kernel
theorem dX10_day_2 : decode cX10_day 2 = .ok (.iload_n 2, 1) := by decide +kernel
theorem dX10_day_3 : decode cX10_day 3 = .ok (.iload_n 3, 1) := by decide +kernel
theorem dX10_day_4 : decode cX10_day 4 = .ok (.invokevirtual 360, 3) := by decide +kernel
theorem dX10_day_7 : decode cX10_day 7 = .ok (.ifCond .ne 6, 3) := by decide +kernel
theorem dX10_day_10 : decode cX10_day 10 = .ok (.bipush (-2), 2) := by decide +kernel
theorem dX10_day_12 : decode cX10_day 12 = .ok (.ireturn, 1) := by decide +kernel
theorem dX10_day_13 : decode cX10_day 13 = .ok (.aload_n 0, 1) := by decide +kernel
theorem dX10_day_14 : decode cX10_day 14 = .ok (.invokevirtual 318, 3) := by decide +kernel
theorem dX10_day_17 : decode cX10_day 17 = .ok (.aload_n 0, 1) := by decide +kernel
theorem dX10_day_18 : decode cX10_day 18 = .ok (.iload_n 1, 1) := by decide +kernel
theorem dX10_day_19 : decode cX10_day 19 = .ok (.iload_n 2, 1) := by decide +kernel
theorem dX10_day_20 : decode cX10_day 20 = .ok (.iload_n 3, 1) := by decide +kernel
theorem dX10_day_21 : decode cX10_day 21 = .ok (.invokevirtual 363, 3) := by decide +kernel
theorem dX10_day_24 : decode cX10_day 24 = .ok (.aload_n 0, 1) := by decide +kernel
theorem dX10_day_25 : decode cX10_day 25 = .ok (.getfield 80, 3) := by decide +kernel
theorem dX10_day_28 : decode cX10_day 28 = .ok (.invokevirtual 321, 3) := by decide +kernel
theorem dX10_day_31 : decode cX10_day 31 = .ok (.aload_n 0, 1) := by decide +kernel
theorem dX10_day_32 : decode cX10_day 32 = .ok (.getfield 80, 3) := by decide +kernel
theorem dX10_day_35 : decode cX10_day 35 = .ok (.invokevirtual 354, 3) := by decide +kernel
theorem dX10_day_38 : decode cX10_day 38 = .ok (.aload_n 0, 1) := by decide +kernel
theorem dX10_day_39 : decode cX10_day 39 = .ok (.getfield 80, 3) := by decide +kernel
theorem dX10_day_42 : decode cX10_day 42 = .ok (.invokevirtual 324, 3) := by decide +kernel
theorem dX10_day_45 : decode cX10_day 45 = .ok (.ireturn, 1) := by decide +kernel
set_option maxRecDepth 20000 in
theorem ggX10_hasDay_X10_hasLine : GoodIn wsX10_hasDay wsX10_hasLine := goodIn_r _ [6, 7, 8, 12, 13, 14, 15, 16, 17, 18, 19, 20, 21, 22, 23, 24, 25, 26, 27, 28, 29, 30, 31, 32, 33, 34, 35] (by decide +kernel) (by decide +kernel)
set_option maxRecDepth 20000 in
theorem gX10_hasDay_X10_hasLine : GoodIn wsX10_hasDay (wsV RX10 131 RX10 yX10_hasLine wsX10_hasLine) := goodIn_app (goodIn_of _ (by decide +kernel)) ggX10_hasDay_X10_hasLine
theorem dX10_hasDay_0 : decode cX10_hasDay 0 = .ok (.aload_n 0, 1) := by decide +kernel
theorem dX10_hasDay_1 : decode cX10_hasDay 1 = .ok (.invokevirtual 131, 3) := by decide +kernel
theorem dX10_hasDay_4 : decode cX10_hasDay 4 = .ok (.ifCond .eq 38, 3) := by decide +kernel
theorem dX10_hasDay_7 : decode cX10_hasDay 7 = .ok (.iload_n 1, 1) := by decide +kernel
theorem dX10_hasDay_8 : decode cX10_hasDay 8 = .ok (.iconst 0, 1) := by decide +kernel
theorem dX10_hasDay_9 : decode cX10_hasDay 9 = .ok (.ldc_w 366, 3) := by decide +kernel
theorem dX10_hasDay_12 : decode cX10_hasDay 12 = .ok (.invokestatic 176, 3) := by decide +kernel
theorem dX10_hasDay_15 : decode cX10_hasDay 15 = .ok (.ifCond .eq 27, 3) := by decide +kernel
theorem dX10_hasDay_18 : decode cX10_hasDay 18 = .ok (.iload_n 2, 1) := by decide +kernel
theorem dX10_hasDay_19 : decode cX10_hasDay 19 = .ok (.iconst 0, 1) := by decide +kernel
theorem dX10_hasDay_20 : decode cX10_hasDay 20 = .ok (.bipush 100, 2) := by decide +kernel
theorem dX10_hasDay_22 : decode cX10_hasDay 22 = .ok (.invokestatic 176, 3) := by decide +kernel
theorem dX10_hasDay_25 : decode cX10_hasDay 25 = .ok (.ifCond .eq 17, 3) := by decide +kernel
theorem dX10_hasDay_28 : decode cX10_hasDay 28 = .ok (.iload_n 3, 1) := by decide +kernel
theorem dX10_hasDay_29 : decode cX10_hasDay 29 = .ok (.iconst 0, 1) := by decide +kernel
theorem dX10_hasDay_30 : decode cX10_hasDay 30 = .ok (.bipush 99, 2) := by decide +kernel
theorem dX10_hasDay_32 : decode cX10_hasDay 32 = .ok (.invokestatic 176, 3) := by decide +kernel
theorem dX10_hasDay_35 : decode cX10_hasDay 35 = .ok (.ifCond .eq 7, 3) := by decide +kernel
theorem dX10_hasDay_38 : decode cX10_hasDay 38 = .ok (.iconst 1, 1) := by decide +kernel
theorem dX10_hasDay_39 : decode cX10_hasDay 39 = .ok (.goto 4, 3) := by decide +kernel
theorem dX10_hasDay_42 : decode cX10_hasDay 42 = .ok (.iconst 0, 1) := by decide +kernel
theorem dX10_hasDay_43 : decode cX10_hasDay 43 = .ok (.ireturn, 1) := by decide +kernel
set_option maxRecDepth 20000 in
theorem ggX10_shunts_X6_has : GoodIn wsX10_shunts wsX6_has := goodIn_r _ [8, 9, 94, 95, 96, 97] (by decide +kernel) (by decide +kernel)
set_option maxRecDepth 20000 in
theorem gX10_shunts_X6_has : GoodIn wsX10_shunts (wsV RX10 139 RX6 yX6_has wsX6_has) := goodIn_app (goodIn_of _ (by decide +kernel)) ggX10_shunts_X6_has
theorem dX10_shunts_0 : decode cX10_shunts 0 = .ok (.aload_n 0, 1) := by decide +kernel
theorem dX10_shunts_1 : decode cX10_shunts 1 = .ok (.getfield 27, 3) := by decide +kernel
theorem dX10_shunts_4 : decode cX10_shunts 4 = .ok (.getfield 193, 3) := by decide +kernel
theorem dX10_shunts_7 : decode cX10_shunts 7 = .ok (.iload_n 1, 1) := by decide +kernel
theorem dX10_shunts_8 : decode cX10_shunts 8 = .ok (.invokevirtual 139, 3) := by decide +kernel
theorem dX10_shunts_11 : decode cX10_shunts 11 = .ok (.ifCond .eq 12, 3) := by decide +kernel
theorem dX10_shunts_14 : decode cX10_shunts 14 = .ok (.iload_n 2, 1) := by decide +kernel
theorem dX10_shunts_15 : decode cX10_shunts 15 = .ok (.iconst 0, 1) := by decide +kernel
theorem dX10_shunts_16 : decode cX10_shunts 16 = .ok (.iconst 1, 1) := by decide +kernel
theorem dX10_shunts_17 : decode cX10_shunts 17 = .ok (.invokestatic 176, 3) := by decide +kernel
theorem dX10_shunts_20 : decode cX10_shunts 20 = .ok (.ifCond .ne 6, 3) := by decide +kernel
theorem dX10_shunts_23 : decode cX10_shunts 23 = .ok (.bipush (-2), 2) := by decide +kernel
theorem dX10_shunts_25 : decode cX10_shunts 25 = .ok (.ireturn, 1) := by decide +kernel
theorem dX10_shunts_26 : decode cX10_shunts 26 = .ok (.aload_n 0, 1) := by decide +kernel
theorem dX10_shunts_27 : decode cX10_shunts 27 = .ok (.getfield 96, 3) := by decide +kernel
theorem dX10_shunts_30 : decode cX10_shunts 30 = .ok (.aload_n 0, 1) := by decide +kernel
theorem dX10_shunts_31 : decode cX10_shunts 31 = .ok (.getfield 27, 3) := by decide +kernel
theorem dX10_shunts_34 : decode cX10_shunts 34 = .ok (.iload_n 1, 1) := by decide +kernel
theorem dX10_shunts_35 : decode cX10_shunts 35 = .ok (.invokevirtual 385, 3) := by decide +kernel
theorem dX10_shunts_38 : decode cX10_shunts 38 = .ok (.istore_n 3, 1) := by decide +kernel
theorem dX10_shunts_39 : decode cX10_shunts 39 = .ok (.iload_n 2, 1) := by decide +kernel
theorem dX10_shunts_40 : decode cX10_shunts 40 = .ok (.ifCond .ne 10, 3) := by decide +kernel
theorem dX10_shunts_43 : decode cX10_shunts 43 = .ok (.iload_n 3, 1) := by decide +kernel
theorem dX10_shunts_44 : decode cX10_shunts 44 = .ok (.invokestatic 328, 3) := by decide +kernel
theorem dX10_shunts_47 : decode cX10_shunts 47 = .ok (.goto 4, 3) := by decide +kernel
theorem dX10_shunts_50 : decode cX10_shunts 50 = .ok (.iload_n 3, 1) := by decide +kernel
theorem dX10_shunts_51 : decode cX10_shunts 51 = .ok (.ireturn, 1) := by decide +kernel
set_option maxRecDepth 20000 in
theorem ggX10_order_X6_has : GoodIn wsX10_order wsX6_has := goodIn_r _ [10, 11, 59, 60, 61, 62] (by decide +kernel) (by decide +kernel)
set_option maxRecDepth 20000 in
theorem gX10_order_X6_has : GoodIn wsX10_order (wsV RX10 139 RX6 yX6_has wsX6_has) := goodIn_app (goodIn_of _ (by decide +kernel)) ggX10_order_X6_has
theorem dX10_order_0 : decode cX10_order 0 = .ok (.aload_n 0, 1) := by decide +kernel
theorem dX10_order_1 : decode cX10_order 1 = .ok (.getfield 27, 3) := by decide +kernel
theorem dX10_order_4 : decode cX10_order 4 = .ok (.getfield 193, 3) := by decide +kernel
theorem dX10_order_7 : decode cX10_order 7 = .ok (.iload_n 1, 1) := by decide +kernel
theorem dX10_order_8 : decode cX10_order 8 = .ok (.invokevirtual 139, 3) := by decide +kernel
theorem dX10_order_11 : decode cX10_order 11 = .ok (.ifCond .ne 6, 3) := by decide +kernel
theorem dX10_order_14 : decode cX10_order 14 = .ok (.bipush (-2), 2) := by decide +kernel
theorem dX10_order_16 : decode cX10_order 16 = .ok (.ireturn, 1) := by decide +kernel
theorem dX10_order_17 : decode cX10_order 17 = .ok (.iconst 0, 1) := by decide +kernel
theorem dX10_order_18 : decode cX10_order 18 = .ok (.istore_n 3, 1) := by decide +kernel
theorem dX10_order_19 : decode cX10_order 19 = .ok (.iload_n 3, 1) := by decide +kernel
theorem dX10_order_20 : decode cX10_order 20 = .ok (.aload_n 0, 1) := by decide +kernel
theorem dX10_order_21 : decode cX10_order 21 = .ok (.getfield 27, 3) := by decide +kernel
theorem dX10_order_24 : decode cX10_order 24 = .ok (.getfield 173, 3) := by decide +kernel
theorem dX10_order_27 : decode cX10_order 27 = .ok (.getfield 283, 3) := by decide +kernel
theorem dX10_order_30 : decode cX10_order 30 = .ok (.if_icmp .ge 43, 3) := by decide +kernel
theorem dX10_order_33 : decode cX10_order 33 = .ok (.aload_n 0, 1) := by decide +kernel
theorem dX10_order_34 : decode cX10_order 34 = .ok (.getfield 27, 3) := by decide +kernel
theorem dX10_order_37 : decode cX10_order 37 = .ok (.getfield 173, 3) := by decide +kernel
theorem dX10_order_40 : decode cX10_order 40 = .ok (.iload_n 3, 1) := by decide +kernel
theorem dX10_order_41 : decode cX10_order 41 = .ok (.iconst 0, 1) := by decide +kernel
theorem dX10_order_42 : decode cX10_order 42 = .ok (.invokevirtual 179, 3) := by decide +kernel
theorem dX10_order_45 : decode cX10_order 45 = .ok (.iload_n 1, 1) := by decide +kernel
theorem dX10_order_46 : decode cX10_order 46 = .ok (.if_icmp .ne 21, 3) := by decide +kernel
theorem dX10_order_49 : decode cX10_order 49 = .ok (.aload_n 0, 1) := by decide +kernel
theorem dX10_order_50 : decode cX10_order 50 = .ok (.getfield 96, 3) := by decide +kernel
theorem dX10_order_53 : decode cX10_order 53 = .ok (.aload_n 0, 1) := by decide +kernel
theorem dX10_order_54 : decode cX10_order 54 = .ok (.getfield 27, 3) := by decide +kernel
theorem dX10_order_57 : decode cX10_order 57 = .ok (.iload_n 3, 1) := by decide +kernel
theorem dX10_order_58 : decode cX10_order 58 = .ok (.invokevirtual 389, 3) := by decide +kernel
theorem dX10_order_61 : decode cX10_order 61 = .ok (.iload_n 2, 1) := by decide +kernel
theorem dX10_order_62 : decode cX10_order 62 = .ok (.if_icmp .ne 5, 3) := by decide +kernel
theorem dX10_order_65 : decode cX10_order 65 = .ok (.iload_n 3, 1) := by decide +kernel
theorem dX10_order_66 : decode cX10_order 66 = .ok (.ireturn, 1) := by decide +kernel
theorem dX10_order_67 : decode cX10_order 67 = .ok (.iinc 3 1, 3) := by decide +kernel
theorem dX10_order_70 : decode cX10_order 70 = .ok (.goto (-51), 3) := by decide +kernel
theorem dX10_order_73 : decode cX10_order 73 = .ok (.iconst (-1), 1) := by decide +kernel
theorem dX10_order_74 : decode cX10_order 74 = .ok (.ireturn, 1) := by decide +kernel
set_option maxRecDepth 20000 in
theorem ggX10_blocked_X6_has : GoodIn wsX10_blocked wsX6_has := goodIn_r _ [12, 13, 57, 58, 59, 60] (by decide +kernel) (by decide +kernel)
set_option maxRecDepth 20000 in
theorem gX10_blocked_X6_has : GoodIn wsX10_blocked (wsV RX10 139 RX6 yX6_has wsX6_has) := goodIn_app (goodIn_of _ (by decide +kernel)) ggX10_blocked_X6_has
theorem dX10_blocked_0 : decode cX10_blocked 0 = .ok (.aload_n 0, 1) := by decide +kernel
theorem dX10_blocked_1 : decode cX10_blocked 1 = .ok (.getfield 27, 3) := by decide +kernel
theorem dX10_blocked_4 : decode cX10_blocked 4 = .ok (.getfield 193, 3) := by decide +kernel
theorem dX10_blocked_7 : decode cX10_blocked 7 = .ok (.iload_n 1, 1) := by decide +kernel
theorem dX10_blocked_8 : decode cX10_blocked 8 = .ok (.invokevirtual 139, 3) := by decide +kernel
theorem dX10_blocked_11 : decode cX10_blocked 11 = .ok (.ifCond .ne 6, 3) := by decide +kernel
theorem dX10_blocked_14 : decode cX10_blocked 14 = .ok (.bipush (-2), 2) := by decide +kernel
theorem dX10_blocked_16 : decode cX10_blocked 16 = .ok (.ireturn, 1) := by decide +kernel
theorem dX10_blocked_17 : decode cX10_blocked 17 = .ok (.iconst (-1), 1) := by decide +kernel
theorem dX10_blocked_18 : decode cX10_blocked 18 = .ok (.istore_n 2, 1) := by decide +kernel
theorem dX10_blocked_19 : decode cX10_blocked 19 = .ok (.aload_n 0, 1) := by decide +kernel
theorem dX10_blocked_20 : decode cX10_blocked 20 = .ok (.getfield 27, 3) := by decide +kernel
theorem dX10_blocked_23 : decode cX10_blocked 23 = .ok (.iload_n 1, 1) := by decide +kernel
theorem dX10_blocked_24 : decode cX10_blocked 24 = .ok (.invokevirtual 392, 3) := by decide +kernel
theorem dX10_blocked_27 : decode cX10_blocked 27 = .ok (.iconst 1, 1) := by decide +kernel
theorem dX10_blocked_28 : decode cX10_blocked 28 = .ok (.isub, 1) := by decide +kernel
theorem dX10_blocked_29 : decode cX10_blocked 29 = .ok (.istore_n 3, 1) := by decide +kernel
theorem dX10_blocked_30 : decode cX10_blocked 30 = .ok (.iload_n 3, 1) := by decide +kernel
theorem dX10_blocked_31 : decode cX10_blocked 31 = .ok (.ifCond .lt 51, 3) := by decide +kernel
theorem dX10_blocked_34 : decode cX10_blocked 34 = .ok (.aload_n 0, 1) := by decide +kernel
theorem dX10_blocked_35 : decode cX10_blocked 35 = .ok (.getfield 27, 3) := by decide +kernel
theorem dX10_blocked_38 : decode cX10_blocked 38 = .ok (.iload_n 1, 1) := by decide +kernel
theorem dX10_blocked_39 : decode cX10_blocked 39 = .ok (.iload_n 3, 1) := by decide +kernel
theorem dX10_blocked_40 : decode cX10_blocked 40 = .ok (.invokevirtual 395, 3) := by decide +kernel
theorem dX10_blocked_43 : decode cX10_blocked 43 = .ok (.istore 4, 2) := by decide +kernel
theorem dX10_blocked_45 : decode cX10_blocked 45 = .ok (.aload_n 0, 1) := by decide +kernel
theorem dX10_blocked_46 : decode cX10_blocked 46 = .ok (.getfield 27, 3) := by decide +kernel
theorem dX10_blocked_49 : decode cX10_blocked 49 = .ok (.getfield 173, 3) := by decide +kernel
theorem dX10_blocked_52 : decode cX10_blocked 52 = .ok (.iload 4, 2) := by decide +kernel
theorem dX10_blocked_54 : decode cX10_blocked 54 = .ok (.iconst 3, 1) := by decide +kernel
theorem dX10_blocked_55 : decode cX10_blocked 55 = .ok (.invokevirtual 179, 3) := by decide +kernel
theorem dX10_blocked_58 : decode cX10_blocked 58 = .ok (.istore 5, 2) := by decide +kernel
theorem dX10_blocked_60 : decode cX10_blocked 60 = .ok (.iload 5, 2) := by decide +kernel
theorem dX10_blocked_62 : decode cX10_blocked 62 = .ok (.iload_n 2, 1) := by decide +kernel
theorem dX10_blocked_63 : decode cX10_blocked 63 = .ok (.if_icmp .ge 6, 3) := by decide +kernel
theorem dX10_blocked_66 : decode cX10_blocked 66 = .ok (.iload 4, 2) := by decide +kernel
theorem dX10_blocked_68 : decode cX10_blocked 68 = .ok (.ireturn, 1) := by decide +kernel
theorem dX10_blocked_69 : decode cX10_blocked 69 = .ok (.iload_n 2, 1) := by decide +kernel
theorem dX10_blocked_70 : decode cX10_blocked 70 = .ok (.iload 5, 2) := by decide +kernel
theorem dX10_blocked_72 : decode cX10_blocked 72 = .ok (.invokestatic 398, 3) := by decide +kernel
theorem dX10_blocked_75 : decode cX10_blocked 75 = .ok (.istore_n 2, 1) := by decide +kernel
theorem dX10_blocked_76 : decode cX10_blocked 76 = .ok (.iinc 3 (-1), 3) := by decide +kernel
theorem dX10_blocked_79 : decode cX10_blocked 79 = .ok (.goto (-49), 3) := by decide +kernel
theorem dX10_blocked_82 : decode cX10_blocked 82 = .ok (.iconst (-1), 1) := by decide +kernel
theorem dX10_blocked_83 : decode cX10_blocked 83 = .ok (.ireturn, 1) := by decide +kernel
set_option maxRecDepth 20000 in
theorem ggX10_saved_X6_has : GoodIn wsX10_saved wsX6_has := goodIn_r _ [10, 11, 146, 147, 148, 149] (by decide +kernel) (by decide +kernel)
set_option maxRecDepth 20000 in
theorem gX10_saved_X6_has : GoodIn wsX10_saved (wsV RX10 139 RX6 yX6_has wsX6_has) := goodIn_app (goodIn_of _ (by decide +kernel)) ggX10_saved_X6_has
theorem dX10_saved_0 : decode cX10_saved 0 = .ok (.aload_n 0, 1) := by decide +kernel
theorem dX10_saved_1 : decode cX10_saved 1 = .ok (.getfield 27, 3) := by decide +kernel
theorem dX10_saved_4 : decode cX10_saved 4 = .ok (.getfield 193, 3) := by decide +kernel
theorem dX10_saved_7 : decode cX10_saved 7 = .ok (.iload_n 1, 1) := by decide +kernel
theorem dX10_saved_8 : decode cX10_saved 8 = .ok (.invokevirtual 139, 3) := by decide +kernel
theorem dX10_saved_11 : decode cX10_saved 11 = .ok (.ifCond .eq 13, 3) := by decide +kernel
theorem dX10_saved_14 : decode cX10_saved 14 = .ok (.iload_n 2, 1) := by decide +kernel
theorem dX10_saved_15 : decode cX10_saved 15 = .ok (.iconst 0, 1) := by decide +kernel
theorem dX10_saved_16 : decode cX10_saved 16 = .ok (.bipush 99, 2) := by decide +kernel
theorem dX10_saved_18 : decode cX10_saved 18 = .ok (.invokestatic 176, 3) := by decide +kernel
theorem dX10_saved_21 : decode cX10_saved 21 = .ok (.ifCond .ne 6, 3) := by decide +kernel
theorem dX10_saved_24 : decode cX10_saved 24 = .ok (.ldc 242, 2) := by decide +kernel
theorem dX10_saved_26 : decode cX10_saved 26 = .ok (.ireturn, 1) := by decide +kernel
theorem dX10_saved_27 : decode cX10_saved 27 = .ok (.aload_n 0, 1) := by decide +kernel
theorem dX10_saved_28 : decode cX10_saved 28 = .ok (.getfield 80, 3) := by decide +kernel
theorem dX10_saved_31 : decode cX10_saved 31 = .ok (.iload_n 1, 1) := by decide +kernel
theorem dX10_saved_32 : decode cX10_saved 32 = .ok (.invokevirtual 265, 3) := by decide +kernel
theorem dX10_saved_35 : decode cX10_saved 35 = .ok (.aload_n 0, 1) := by decide +kernel
theorem dX10_saved_36 : decode cX10_saved 36 = .ok (.getfield 80, 3) := by decide +kernel
theorem dX10_saved_39 : decode cX10_saved 39 = .ok (.iload_n 1, 1) := by decide +kernel
theorem dX10_saved_40 : decode cX10_saved 40 = .ok (.invokevirtual 401, 3) := by decide +kernel
theorem dX10_saved_43 : decode cX10_saved 43 = .ok (.iload_n 2, 1) := by decide +kernel
theorem dX10_saved_44 : decode cX10_saved 44 = .ok (.aload_n 0, 1) := by decide +kernel
theorem dX10_saved_45 : decode cX10_saved 45 = .ok (.getfield 27, 3) := by decide +kernel
theorem dX10_saved_48 : decode cX10_saved 48 = .ok (.iload_n 1, 1) := by decide +kernel
theorem dX10_saved_49 : decode cX10_saved 49 = .ok (.invokevirtual 404, 3) := by decide +kernel
theorem dX10_saved_52 : decode cX10_saved 52 = .ok (.imul, 1) := by decide +kernel
theorem dX10_saved_53 : decode cX10_saved 53 = .ok (.iadd, 1) := by decide +kernel
theorem dX10_saved_54 : decode cX10_saved 54 = .ok (.aload_n 0, 1) := by decide +kernel
theorem dX10_saved_55 : decode cX10_saved 55 = .ok (.getfield 80, 3) := by decide +kernel
theorem dX10_saved_58 : decode cX10_saved 58 = .ok (.getfield 407, 3) := by decide +kernel
theorem dX10_saved_61 : decode cX10_saved 61 = .ok (.iload_n 1, 1) := by decide +kernel
theorem dX10_saved_62 : decode cX10_saved 62 = .ok (.iaload, 1) := by decide +kernel
theorem dX10_saved_63 : decode cX10_saved 63 = .ok (.isub, 1) := by decide +kernel
theorem dX10_saved_64 : decode cX10_saved 64 = .ok (.ireturn, 1) := by decide +kernel
set_option maxRecDepth 20000 in
theorem ggX10_best_X6_has : GoodIn wsX10_best wsX6_has := goodIn_r _ [11, 12, 206, 207, 208, 209] (by decide +kernel) (by decide +kernel)
set_option maxRecDepth 20000 in
theorem gX10_best_X6_has : GoodIn wsX10_best (wsV RX10 139 RX6 yX6_has wsX6_has) := goodIn_app (goodIn_of _ (by decide +kernel)) ggX10_best_X6_has
theorem dX10_best_0 : decode cX10_best 0 = .ok (.aload_n 0, 1) := by decide +kernel
theorem dX10_best_1 : decode cX10_best 1 = .ok (.getfield 27, 3) := by decide +kernel
theorem dX10_best_4 : decode cX10_best 4 = .ok (.getfield 173, 3) := by decide +kernel
theorem dX10_best_7 : decode cX10_best 7 = .ok (.iload_n 1, 1) := by decide +kernel
theorem dX10_best_8 : decode cX10_best 8 = .ok (.invokevirtual 139, 3) := by decide +kernel
theorem dX10_best_11 : decode cX10_best 11 = .ok (.ifCond .ne 6, 3) := by decide +kernel
theorem dX10_best_14 : decode cX10_best 14 = .ok (.bipush (-2), 2) := by decide +kernel
theorem dX10_best_16 : decode cX10_best 16 = .ok (.ireturn, 1) := by decide +kernel
theorem dX10_best_17 : decode cX10_best 17 = .ok (.aload_n 0, 1) := by decide +kernel
theorem dX10_best_18 : decode cX10_best 18 = .ok (.iload_n 1, 1) := by decide +kernel
theorem dX10_best_19 : decode cX10_best 19 = .ok (.invokevirtual 286, 3) := by decide +kernel
theorem dX10_best_22 : decode cX10_best 22 = .ok (.aload_n 0, 1) := by decide +kernel
theorem dX10_best_23 : decode cX10_best 23 = .ok (.getfield 27, 3) := by decide +kernel
theorem dX10_best_26 : decode cX10_best 26 = .ok (.getfield 173, 3) := by decide +kernel
theorem dX10_best_29 : decode cX10_best 29 = .ok (.iload_n 1, 1) := by decide +kernel
theorem dX10_best_30 : decode cX10_best 30 = .ok (.iconst 3, 1) := by decide +kernel
theorem dX10_best_31 : decode cX10_best 31 = .ok (.invokevirtual 179, 3) := by decide +kernel
theorem dX10_best_34 : decode cX10_best 34 = .ok (.istore_n 2, 1) := by decide +kernel
theorem dX10_best_35 : decode cX10_best 35 = .ok (.iconst (-1), 1) := by decide +kernel
theorem dX10_best_36 : decode cX10_best 36 = .ok (.istore_n 3, 1) := by decide +kernel
theorem dX10_best_37 : decode cX10_best 37 = .ok (.iconst 0, 1) := by decide +kernel
theorem dX10_best_38 : decode cX10_best 38 = .ok (.istore 4, 2) := by decide +kernel
theorem dX10_best_40 : decode cX10_best 40 = .ok (.iconst (-1), 1) := by decide +kernel
theorem dX10_best_41 : decode cX10_best 41 = .ok (.istore 5, 2) := by decide +kernel
theorem dX10_best_43 : decode cX10_best 43 = .ok (.iconst 0, 1) := by decide +kernel
theorem dX10_best_44 : decode cX10_best 44 = .ok (.istore 6, 2) := by decide +kernel
theorem dX10_best_46 : decode cX10_best 46 = .ok (.iload 6, 2) := by decide +kernel
theorem dX10_best_48 : decode cX10_best 48 = .ok (.aload_n 0, 1) := by decide +kernel
theorem dX10_best_49 : decode cX10_best 49 = .ok (.getfield 27, 3) := by decide +kernel
theorem dX10_best_52 : decode cX10_best 52 = .ok (.getfield 128, 3) := by decide +kernel
theorem dX10_best_55 : decode cX10_best 55 = .ok (.if_icmp .gt 65, 3) := by decide +kernel
theorem dX10_best_58 : decode cX10_best 58 = .ok (.iload 6, 2) := by decide +kernel
theorem dX10_best_60 : decode cX10_best 60 = .ok (.iload 5, 2) := by decide +kernel
theorem dX10_best_62 : decode cX10_best 62 = .ok (.if_icmp .le 52, 3) := by decide +kernel
theorem dX10_best_65 : decode cX10_best 65 = .ok (.aload_n 0, 1) := by decide +kernel
theorem dX10_best_66 : decode cX10_best 66 = .ok (.iload_n 1, 1) := by decide +kernel
theorem dX10_best_67 : decode cX10_best 67 = .ok (.iload 6, 2) := by decide +kernel
theorem dX10_best_69 : decode cX10_best 69 = .ok (.invokevirtual 410, 3) := by decide +kernel
theorem dX10_best_72 : decode cX10_best 72 = .ok (.istore 5, 2) := by decide +kernel
theorem dX10_best_74 : decode cX10_best 74 = .ok (.aload_n 0, 1) := by decide +kernel
theorem dX10_best_75 : decode cX10_best 75 = .ok (.getfield 80, 3) := by decide +kernel
theorem dX10_best_78 : decode cX10_best 78 = .ok (.iload_n 1, 1) := by decide +kernel
theorem dX10_best_79 : decode cX10_best 79 = .ok (.invokevirtual 413, 3) := by decide +kernel
theorem dX10_best_82 : decode cX10_best 82 = .ok (.ifCond .eq 32, 3) := by decide +kernel
theorem dX10_best_85 : decode cX10_best 85 = .ok (.iload_n 3, 1) := by decide +kernel
theorem dX10_best_86 : decode cX10_best 86 = .ok (.iconst (-1), 1) := by decide +kernel
theorem dX10_best_87 : decode cX10_best 87 = .ok (.if_icmp .eq 15, 3) := by decide +kernel
theorem dX10_best_90 : decode cX10_best 90 = .ok (.aload_n 0, 1) := by decide +kernel
theorem dX10_best_91 : decode cX10_best 91 = .ok (.getfield 64, 3) := by decide +kernel
theorem dX10_best_94 : decode cX10_best 94 = .ok (.getfield 209, 3) := by decide +kernel
theorem dX10_best_97 : decode cX10_best 97 = .ok (.iload 4, 2) := by decide +kernel
theorem dX10_best_99 : decode cX10_best 99 = .ok (.if_icmp .ge 15, 3) := by decide +kernel
theorem dX10_best_102 : decode cX10_best 102 = .ok (.iload 6, 2) := by decide +kernel
theorem dX10_best_104 : decode cX10_best 104 = .ok (.istore_n 3, 1) := by decide +kernel
theorem dX10_best_105 : decode cX10_best 105 = .ok (.aload_n 0, 1) := by decide +kernel
theorem dX10_best_106 : decode cX10_best 106 = .ok (.getfield 64, 3) := by decide +kernel
theorem dX10_best_109 : decode cX10_best 109 = .ok (.getfield 209, 3) := by decide +kernel
theorem dX10_best_112 : decode cX10_best 112 = .ok (.istore 4, 2) := by decide +kernel
theorem dX10_best_114 : decode cX10_best 114 = .ok (.iinc 6 1, 3) := by decide +kernel
theorem dX10_best_117 : decode cX10_best 117 = .ok (.goto (-71), 3) := by decide +kernel
theorem dX10_best_120 : decode cX10_best 120 = .ok (.aload_n 0, 1) := by decide +kernel
theorem dX10_best_121 : decode cX10_best 121 = .ok (.getfield 27, 3) := by decide +kernel
theorem dX10_best_124 : decode cX10_best 124 = .ok (.getfield 173, 3) := by decide +kernel
theorem dX10_best_127 : decode cX10_best 127 = .ok (.iload_n 1, 1) := by decide +kernel
theorem dX10_best_128 : decode cX10_best 128 = .ok (.iconst 3, 1) := by decide +kernel
theorem dX10_best_129 : decode cX10_best 129 = .ok (.iload_n 2, 1) := by decide +kernel
theorem dX10_best_130 : decode cX10_best 130 = .ok (.invokevirtual 189, 3) := by decide +kernel
theorem dX10_best_133 : decode cX10_best 133 = .ok (.iload_n 3, 1) := by decide +kernel
theorem dX10_best_134 : decode cX10_best 134 = .ok (.ireturn, 1) := by decide +kernel
set_option maxRecDepth 20000 in
theorem ggX10_margin_X6_has : GoodIn wsX10_margin wsX6_has := goodIn_r _ [9, 10, 199, 200, 201, 202] (by decide +kernel) (by decide +kernel)
set_option maxRecDepth 20000 in
theorem gX10_margin_X6_has : GoodIn wsX10_margin (wsV RX10 139 RX6 yX6_has wsX6_has) := goodIn_app (goodIn_of _ (by decide +kernel)) ggX10_margin_X6_has
theorem dX10_margin_0 : decode cX10_margin 0 = .ok (.aload_n 0, 1) := by decide +kernel
theorem dX10_margin_1 : decode cX10_margin 1 = .ok (.getfield 27, 3) := by decide +kernel
theorem dX10_margin_4 : decode cX10_margin 4 = .ok (.getfield 173, 3) := by decide +kernel
theorem dX10_margin_7 : decode cX10_margin 7 = .ok (.iload_n 1, 1) := by decide +kernel
theorem dX10_margin_8 : decode cX10_margin 8 = .ok (.invokevirtual 139, 3) := by decide +kernel
theorem dX10_margin_11 : decode cX10_margin 11 = .ok (.ifCond .eq 12, 3) := by decide +kernel
theorem dX10_margin_14 : decode cX10_margin 14 = .ok (.iload_n 2, 1) := by decide +kernel
theorem dX10_margin_15 : decode cX10_margin 15 = .ok (.iconst 0, 1) := by decide +kernel
theorem dX10_margin_16 : decode cX10_margin 16 = .ok (.iconst 1, 1) := by decide +kernel
theorem dX10_margin_17 : decode cX10_margin 17 = .ok (.invokestatic 176, 3) := by decide +kernel
theorem dX10_margin_20 : decode cX10_margin 20 = .ok (.ifCond .ne 6, 3) := by decide +kernel
theorem dX10_margin_23 : decode cX10_margin 23 = .ok (.bipush (-2), 2) := by decide +kernel
theorem dX10_margin_25 : decode cX10_margin 25 = .ok (.ireturn, 1) := by decide +kernel
theorem dX10_margin_26 : decode cX10_margin 26 = .ok (.aload_n 0, 1) := by decide +kernel
theorem dX10_margin_27 : decode cX10_margin 27 = .ok (.iload_n 1, 1) := by decide +kernel
theorem dX10_margin_28 : decode cX10_margin 28 = .ok (.invokevirtual 286, 3) := by decide +kernel
theorem dX10_margin_31 : decode cX10_margin 31 = .ok (.aload_n 0, 1) := by decide +kernel
theorem dX10_margin_32 : decode cX10_margin 32 = .ok (.getfield 27, 3) := by decide +kernel
theorem dX10_margin_35 : decode cX10_margin 35 = .ok (.getfield 173, 3) := by decide +kernel
theorem dX10_margin_38 : decode cX10_margin 38 = .ok (.iload_n 1, 1) := by decide +kernel
theorem dX10_margin_39 : decode cX10_margin 39 = .ok (.iconst 3, 1) := by decide +kernel
theorem dX10_margin_40 : decode cX10_margin 40 = .ok (.invokevirtual 179, 3) := by decide +kernel
theorem dX10_margin_43 : decode cX10_margin 43 = .ok (.istore_n 3, 1) := by decide +kernel
theorem dX10_margin_44 : decode cX10_margin 44 = .ok (.iconst (-1), 1) := by decide +kernel
theorem dX10_margin_45 : decode cX10_margin 45 = .ok (.istore 4, 2) := by decide +kernel
theorem dX10_margin_47 : decode cX10_margin 47 = .ok (.iconst (-1), 1) := by decide +kernel
theorem dX10_margin_48 : decode cX10_margin 48 = .ok (.istore 5, 2) := by decide +kernel
theorem dX10_margin_50 : decode cX10_margin 50 = .ok (.iconst (-1), 1) := by decide +kernel
theorem dX10_margin_51 : decode cX10_margin 51 = .ok (.istore 6, 2) := by decide +kernel
theorem dX10_margin_53 : decode cX10_margin 53 = .ok (.iconst 0, 1) := by decide +kernel
theorem dX10_margin_54 : decode cX10_margin 54 = .ok (.istore 7, 2) := by decide +kernel
theorem dX10_margin_56 : decode cX10_margin 56 = .ok (.iconst 0, 1) := by decide +kernel
theorem dX10_margin_57 : decode cX10_margin 57 = .ok (.istore 8, 2) := by decide +kernel
theorem dX10_margin_59 : decode cX10_margin 59 = .ok (.iload 8, 2) := by decide +kernel
theorem dX10_margin_61 : decode cX10_margin 61 = .ok (.aload_n 0, 1) := by decide +kernel
theorem dX10_margin_62 : decode cX10_margin 62 = .ok (.getfield 27, 3) := by decide +kernel
theorem dX10_margin_65 : decode cX10_margin 65 = .ok (.getfield 128, 3) := by decide +kernel
theorem dX10_margin_68 : decode cX10_margin 68 = .ok (.if_icmp .gt 59, 3) := by decide +kernel
theorem dX10_margin_71 : decode cX10_margin 71 = .ok (.iload 8, 2) := by decide +kernel
theorem dX10_margin_73 : decode cX10_margin 73 = .ok (.iload 6, 2) := by decide +kernel
theorem dX10_margin_75 : decode cX10_margin 75 = .ok (.if_icmp .le 22, 3) := by decide +kernel
theorem dX10_margin_78 : decode cX10_margin 78 = .ok (.aload_n 0, 1) := by decide +kernel
theorem dX10_margin_79 : decode cX10_margin 79 = .ok (.iload_n 1, 1) := by decide +kernel
theorem dX10_margin_80 : decode cX10_margin 80 = .ok (.iload 8, 2) := by decide +kernel
theorem dX10_margin_82 : decode cX10_margin 82 = .ok (.invokevirtual 410, 3) := by decide +kernel
theorem dX10_margin_85 : decode cX10_margin 85 = .ok (.istore 6, 2) := by decide +kernel
theorem dX10_margin_87 : decode cX10_margin 87 = .ok (.aload_n 0, 1) := by decide +kernel
theorem dX10_margin_88 : decode cX10_margin 88 = .ok (.getfield 80, 3) := by decide +kernel
theorem dX10_margin_91 : decode cX10_margin 91 = .ok (.iload_n 1, 1) := by decide +kernel
theorem dX10_margin_92 : decode cX10_margin 92 = .ok (.invokevirtual 413, 3) := by decide +kernel
theorem dX10_margin_95 : decode cX10_margin 95 = .ok (.istore 7, 2) := by decide +kernel
theorem dX10_margin_97 : decode cX10_margin 97 = .ok (.iload 7, 2) := by decide +kernel
theorem dX10_margin_99 : decode cX10_margin 99 = .ok (.ifCond .eq 22, 3) := by decide +kernel
theorem dX10_margin_102 : decode cX10_margin 102 = .ok (.iload 4, 2) := by decide +kernel
theorem dX10_margin_104 : decode cX10_margin 104 = .ok (.iconst (-1), 1) := by decide +kernel
theorem dX10_margin_105 : decode cX10_margin 105 = .ok (.if_icmp .ne 8, 3) := by decide +kernel
theorem dX10_margin_108 : decode cX10_margin 108 = .ok (.iload 8, 2) := by decide +kernel
theorem dX10_margin_110 : decode cX10_margin 110 = .ok (.goto 5, 3) := by decide +kernel
theorem dX10_margin_113 : decode cX10_margin 113 = .ok (.iload 4, 2) := by decide +kernel
theorem dX10_margin_115 : decode cX10_margin 115 = .ok (.istore 4, 2) := by decide +kernel
theorem dX10_margin_117 : decode cX10_margin 117 = .ok (.iload 8, 2) := by decide +kernel
theorem dX10_margin_119 : decode cX10_margin 119 = .ok (.istore 5, 2) := by decide +kernel
theorem dX10_margin_121 : decode cX10_margin 121 = .ok (.iinc 8 1, 3) := by decide +kernel
theorem dX10_margin_124 : decode cX10_margin 124 = .ok (.goto (-65), 3) := by decide +kernel
theorem dX10_margin_127 : decode cX10_margin 127 = .ok (.aload_n 0, 1) := by decide +kernel
theorem dX10_margin_128 : decode cX10_margin 128 = .ok (.getfield 27, 3) := by decide +kernel
theorem dX10_margin_131 : decode cX10_margin 131 = .ok (.getfield 173, 3) := by decide +kernel
theorem dX10_margin_134 : decode cX10_margin 134 = .ok (.iload_n 1, 1) := by decide +kernel
theorem dX10_margin_135 : decode cX10_margin 135 = .ok (.iconst 3, 1) := by decide +kernel
theorem dX10_margin_136 : decode cX10_margin 136 = .ok (.iload_n 3, 1) := by decide +kernel
theorem dX10_margin_137 : decode cX10_margin 137 = .ok (.invokevirtual 189, 3) := by decide +kernel
theorem dX10_margin_140 : decode cX10_margin 140 = .ok (.iload_n 2, 1) := by decide +kernel
theorem dX10_margin_141 : decode cX10_margin 141 = .ok (.ifCond .ne 8, 3) := by decide +kernel
theorem dX10_margin_144 : decode cX10_margin 144 = .ok (.iload 4, 2) := by decide +kernel
theorem dX10_margin_146 : decode cX10_margin 146 = .ok (.goto 5, 3) := by decide +kernel
theorem dX10_margin_149 : decode cX10_margin 149 = .ok (.iload 5, 2) := by decide +kernel
theorem dX10_margin_151 : decode cX10_margin 151 = .ok (.ireturn, 1) := by decide +kernel
abbrev vwCl : List vw_C := [(RX0, TX0, 12), (RX1, TX1, 7), (RX2, TX2, 15), (RX3, TX3, 9), (RX4, TX4, 3), (RX5, TX5, 8), (RX6, TX6, 4), (RX7, TX7, 3), (RX8, TX8, 3), (RX9, TX9, 6), (RX10, TX10, 15), (RX11, TX11, 58)]

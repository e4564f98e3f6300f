theorem dX10_line_60 : decode cX10_line 60 = .ok (.aload_n 0, 1) := by decide +kernel
theorem dX10_line_61 : decode cX10_line 61 = .ok (.getfield 27, 3) := by decide +kernel
theorem dX10_line_64 : decode cX10_line 64 = .ok (.getfield 119, 3) := by decide +kernel
theorem dX10_line_67 : decode cX10_line 67 = .ok (.ireturn, 1) := by decide +kernel
set_option maxRecDepth 20000 in
theorem ggX10_layTrack_X9_lay : GoodIn wsX10_layTrack wsX9_lay := goodIn_r _ [8, 9, 10, 11, 12, 13, 14, 15, 16, 17, 18, 7, 19, 20, 21, 22, 23, 24, 25, 26, 27, 28, 29, 30, 31, 32, 33, 34, 35, 36, 37, 38, 39, 40, 41, 42, 43, 44, 45, 46, 47, 48, 49, 50, 51, 52, 53, 54, 55, 56, 78, 79, 80, 81, 82, 83, 84, 85, 86, 87, 88, 89, 90, 91, 92, 93, 94, 95, 96] (by decide +kernel) (by decide +kernel)
set_option maxRecDepth 20000 in
theorem gX10_layTrack_X9_lay : GoodIn wsX10_layTrack (wsV RX10 101 RX9 yX9_lay wsX9_lay) := goodIn_app (goodIn_of _ (by decide +kernel)) ggX10_layTrack_X9_lay
set_option maxRecDepth 20000 in
theorem ggX10_layTrack_X1_forget : GoodIn wsX10_layTrack wsX1_forget := goodIn_r _ [61, 62, 97, 98, 99, 100, 101, 102, 103] (by decide +kernel) (by decide +kernel)
set_option maxRecDepth 20000 in
theorem gX10_layTrack_X1_forget : GoodIn wsX10_layTrack (wsV RX10 122 RX1 yX1_forget wsX1_forget) := goodIn_app (goodIn_of _ (by decide +kernel)) ggX10_layTrack_X1_forget
theorem dX10_layTrack_0 : decode cX10_layTrack 0 = .ok (.aload_n 0, 1) := by decide +kernel
theorem dX10_layTrack_1 : decode cX10_layTrack 1 = .ok (.getfield 55, 3) := by decide +kernel
theorem dX10_layTrack_4 : decode cX10_layTrack 4 = .ok (.aload_n 0, 1) := by decide +kernel
theorem dX10_layTrack_5 : decode cX10_layTrack 5 = .ok (.getfield 27, 3) := by decide +kernel
theorem dX10_layTrack_8 : decode cX10_layTrack 8 = .ok (.iload_n 1, 1) := by decide +kernel
theorem dX10_layTrack_9 : decode cX10_layTrack 9 = .ok (.invokevirtual 101, 3) := by decide +kernel
theorem dX10_layTrack_12 : decode cX10_layTrack 12 = .ok (.aload_n 0, 1) := by decide +kernel
theorem dX10_layTrack_13 : decode cX10_layTrack 13 = .ok (.getfield 64, 3) := by decide +kernel
theorem dX10_layTrack_16 : decode cX10_layTrack 16 = .ok (.invokevirtual 122, 3) := by decide +kernel
theorem dX10_layTrack_19 : decode cX10_layTrack 19 = .ok (.return_, 1) := by decide +kernel
theorem dX10_fault_0 : decode cX10_fault 0 = .ok (.iload_n 1, 1) := by decide +kernel
theorem dX10_fault_1 : decode cX10_fault 1 = .ok (.ifCond .ne 11, 3) := by decide +kernel
theorem dX10_fault_4 : decode cX10_fault 4 = .ok (.aload_n 0, 1) := by decide +kernel
theorem dX10_fault_5 : decode cX10_fault 5 = .ok (.getfield 20, 3) := by decide +kernel
theorem dX10_fault_8 : decode cX10_fault 8 = .ok (.getfield 113, 3) := by decide +kernel
theorem dX10_fault_11 : decode cX10_fault 11 = .ok (.ireturn, 1) := by decide +kernel
theorem dX10_fault_12 : decode cX10_fault 12 = .ok (.iload_n 1, 1) := by decide +kernel
theorem dX10_fault_13 : decode cX10_fault 13 = .ok (.iconst 1, 1) := by decide +kernel
theorem dX10_fault_14 : decode cX10_fault 14 = .ok (.if_icmp .ne 13, 3) := by decide +kernel
theorem dX10_fault_17 : decode cX10_fault 17 = .ok (.aload_n 0, 1) := by decide +kernel
theorem dX10_fault_18 : decode cX10_fault 18 = .ok (.getfield 20, 3) := by decide +kernel
theorem dX10_fault_21 : decode cX10_fault 21 = .ok (.getfield 125, 3) := by decide +kernel
theorem dX10_fault_24 : decode cX10_fault 24 = .ok (.goto 4, 3) := by decide +kernel
theorem dX10_fault_27 : decode cX10_fault 27 = .ok (.iconst (-1), 1) := by decide +kernel
theorem dX10_fault_28 : decode cX10_fault 28 = .ok (.ireturn, 1) := by decide +kernel
theorem dX10_hasLine_0 : decode cX10_hasLine 0 = .ok (.aload_n 0, 1) := by decide +kernel
theorem dX10_hasLine_1 : decode cX10_hasLine 1 = .ok (.getfield 27, 3) := by decide +kernel
theorem dX10_hasLine_4 : decode cX10_hasLine 4 = .ok (.getfield 128, 3) := by decide +kernel
theorem dX10_hasLine_7 : decode cX10_hasLine 7 = .ok (.ifCond .le 7, 3) := by decide +kernel
theorem dX10_hasLine_10 : decode cX10_hasLine 10 = .ok (.iconst 1, 1) := by decide +kernel
theorem dX10_hasLine_11 : decode cX10_hasLine 11 = .ok (.goto 4, 3) := by decide +kernel
theorem dX10_hasLine_14 : decode cX10_hasLine 14 = .ok (.iconst 0, 1) := by decide +kernel
theorem dX10_hasLine_15 : decode cX10_hasLine 15 = .ok (.ireturn, 1) := by decide +kernel
set_option maxRecDepth 20000 in
theorem ggX10_hasYard_X10_hasLine : GoodIn wsX10_hasYard wsX10_hasLine := goodIn_r _ [7, 1, 2, 8, 9, 10, 11, 12, 13, 14, 15, 16, 17, 18, 19, 20, 21, 22, 23, 24, 25, 26, 27, 28, 29, 30, 31] (by decide +kernel) (by decide +kernel)
set_option maxRecDepth 20000 in
theorem gX10_hasYard_X10_hasLine : GoodIn wsX10_hasYard (wsV RX10 131 RX10 yX10_hasLine wsX10_hasLine) := goodIn_app (goodIn_of _ (by decide +kernel)) ggX10_hasYard_X10_hasLine
theorem dX10_hasYard_0 : decode cX10_hasYard 0 = .ok (.aload_n 0, 1) := by decide +kernel
theorem dX10_hasYard_1 : decode cX10_hasYard 1 = .ok (.invokevirtual 131, 3) := by decide +kernel
theorem dX10_hasYard_4 : decode cX10_hasYard 4 = .ok (.ifCond .eq 22, 3) := by decide +kernel
theorem dX10_hasYard_7 : decode cX10_hasYard 7 = .ok (.iload_n 1, 1) := by decide +kernel
theorem dX10_hasYard_8 : decode cX10_hasYard 8 = .ok (.ifCond .lt 18, 3) := by decide +kernel
theorem dX10_hasYard_11 : decode cX10_hasYard 11 = .ok (.iload_n 1, 1) := by decide +kernel
theorem dX10_hasYard_12 : decode cX10_hasYard 12 = .ok (.aload_n 0, 1) := by decide +kernel
theorem dX10_hasYard_13 : decode cX10_hasYard 13 = .ok (.getfield 27, 3) := by decide +kernel
theorem dX10_hasYard_16 : decode cX10_hasYard 16 = .ok (.getfield 128, 3) := by decide +kernel
theorem dX10_hasYard_19 : decode cX10_hasYard 19 = .ok (.if_icmp .gt 7, 3) := by decide +kernel
theorem dX10_hasYard_22 : decode cX10_hasYard 22 = .ok (.iconst 1, 1) := by decide +kernel
theorem dX10_hasYard_23 : decode cX10_hasYard 23 = .ok (.goto 4, 3) := by decide +kernel
theorem dX10_hasYard_26 : decode cX10_hasYard 26 = .ok (.iconst 0, 1) := by decide +kernel
theorem dX10_hasYard_27 : decode cX10_hasYard 27 = .ok (.ireturn, 1) := by decide +kernel
set_option maxRecDepth 20000 in
theorem ggX10_hasRun_X6_has : GoodIn wsX10_hasRun wsX6_has := goodIn_r _ [7, 8, 43, 44, 45, 46] (by decide +kernel) (by decide +kernel)
set_option maxRecDepth 20000 in
theorem gX10_hasRun_X6_has : GoodIn wsX10_hasRun (wsV RX10 139 RX6 yX6_has wsX6_has) := goodIn_app (goodIn_of _ (by decide +kernel)) ggX10_hasRun_X6_has
theorem dX10_hasRun_0 : decode cX10_hasRun 0 = .ok (.aload_n 0, 1) := by decide +kernel
theorem dX10_hasRun_1 : decode cX10_hasRun 1 = .ok (.getfield 27, 3) := by decide +kernel
theorem dX10_hasRun_4 : decode cX10_hasRun 4 = .ok (.getfield 135, 3) := by decide +kernel
theorem dX10_hasRun_7 : decode cX10_hasRun 7 = .ok (.iload_n 1, 1) := by decide +kernel
theorem dX10_hasRun_8 : decode cX10_hasRun 8 = .ok (.invokevirtual 139, 3) := by decide +kernel
theorem dX10_hasRun_11 : decode cX10_hasRun 11 = .ok (.ifCond .eq 26, 3) := by decide +kernel
theorem dX10_hasRun_14 : decode cX10_hasRun 14 = .ok (.aload_n 0, 1) := by decide +kernel
theorem dX10_hasRun_15 : decode cX10_hasRun 15 = .ok (.iload_n 2, 1) := by decide +kernel
theorem dX10_hasRun_16 : decode cX10_hasRun 16 = .ok (.invokevirtual 145, 3) := by decide +kernel
theorem dX10_hasRun_19 : decode cX10_hasRun 19 = .ok (.ifCond .eq 18, 3) := by decide +kernel
theorem dX10_hasRun_22 : decode cX10_hasRun 22 = .ok (.iload_n 3, 1) := by decide +kernel
theorem dX10_hasRun_23 : decode cX10_hasRun 23 = .ok (.iconst 1, 1) := by decide +kernel
theorem dX10_hasRun_24 : decode cX10_hasRun 24 = .ok (.if_icmp .lt 13, 3) := by decide +kernel
theorem dX10_hasRun_27 : decode cX10_hasRun 27 = .ok (.iload_n 3, 1) := by decide +kernel
theorem dX10_hasRun_28 : decode cX10_hasRun 28 = .ok (.bipush 15, 2) := by decide +kernel
theorem dX10_hasRun_30 : decode cX10_hasRun 30 = .ok (.if_icmp .gt 7, 3) := by decide +kernel
theorem dX10_hasRun_33 : decode cX10_hasRun 33 = .ok (.iconst 1, 1) := by decide +kernel
theorem dX10_hasRun_34 : decode cX10_hasRun 34 = .ok (.goto 4, 3) := by decide +kernel
theorem dX10_hasRun_37 : decode cX10_hasRun 37 = .ok (.iconst 0, 1) := by decide +kernel
theorem dX10_hasRun_38 : decode cX10_hasRun 38 = .ok (.ireturn, 1) := by decide +kernel
set_option maxRecDepth 20000 in
theorem ggX10_hasAim_X10_hasRun : GoodIn wsX10_hasAim wsX10_hasRun := goodIn_r _ [7, 1, 8, 9, 10, 11, 12, 13, 14, 15, 16, 17, 6, 18, 19, 20, 21, 22, 23, 24, 25, 26, 27, 28, 29, 30, 31, 32, 33, 34, 35, 36, 37, 38, 39, 40, 41, 42, 43, 44, 45, 46, 47, 48, 49, 50, 51] (by decide +kernel) (by decide +kernel)
set_option maxRecDepth 20000 in
theorem gX10_hasAim_X10_hasRun : GoodIn wsX10_hasAim (wsV RX10 148 RX10 yX10_hasRun wsX10_hasRun) := goodIn_app (goodIn_of _ (by decide +kernel)) ggX10_hasAim_X10_hasRun
theorem dX10_hasAim_0 : decode cX10_hasAim 0 = .ok (.aload_n 0, 1) := by decide +kernel
theorem dX10_hasAim_1 : decode cX10_hasAim 1 = .ok (.iload_n 1, 1) := by decide +kernel
theorem dX10_hasAim_2 : decode cX10_hasAim 2 = .ok (.iload_n 3, 1) := by decide +kernel
theorem dX10_hasAim_3 : decode cX10_hasAim 3 = .ok (.iload 4, 2) := by decide +kernel
theorem dX10_hasAim_5 : decode cX10_hasAim 5 = .ok (.invokevirtual 148, 3) := by decide +kernel
theorem dX10_hasAim_8 : decode cX10_hasAim 8 = .ok (.ifCond .eq 21, 3) := by decide +kernel
theorem dX10_hasAim_11 : decode cX10_hasAim 11 = .ok (.aload_n 0, 1) := by decide +kernel
theorem dX10_hasAim_12 : decode cX10_hasAim 12 = .ok (.getfield 27, 3) := by decide +kernel
theorem dX10_hasAim_15 : decode cX10_hasAim 15 = .ok (.getfield 152, 3) := by decide +kernel
theorem dX10_hasAim_18 : decode cX10_hasAim 18 = .ok (.iload_n 2, 1) := by decide +kernel
theorem dX10_hasAim_19 : decode cX10_hasAim 19 = .ok (.invokevirtual 139, 3) := by decide +kernel
theorem dX10_hasAim_22 : decode cX10_hasAim 22 = .ok (.ifCond .eq 7, 3) := by decide +kernel
theorem dX10_hasAim_25 : decode cX10_hasAim 25 = .ok (.iconst 1, 1) := by decide +kernel
theorem dX10_hasAim_26 : decode cX10_hasAim 26 = .ok (.goto 4, 3) := by decide +kernel
theorem dX10_hasAim_29 : decode cX10_hasAim 29 = .ok (.iconst 0, 1) := by decide +kernel
theorem dX10_hasAim_30 : decode cX10_hasAim 30 = .ok (.ireturn, 1) := by decide +kernel
set_option maxRecDepth 20000 in
theorem ggX10_takesAim_X10_hasAim : GoodIn wsX10_takesAim wsX10_hasAim := goodIn_r _ [6, 7, 8, 9, 10, 11, 5, 12, 13, 14, 15, 16, 17, 18, 19, 20, 21, 22, 23, 24, 25, 26, 27, 28, 84, 85, 86, 87, 88, 89, 90, 91, 92, 93, 94, 95, 96, 97, 98, 99, 100, 101, 102, 103, 104, 105, 106, 107, 108, 109, 110, 111] (by decide +kernel) (by decide +kernel)
set_option maxRecDepth 20000 in
theorem gX10_takesAim_X10_hasAim : GoodIn wsX10_takesAim (wsV RX10 155 RX10 yX10_hasAim wsX10_hasAim) := goodIn_app (goodIn_of _ (by decide +kernel)) ggX10_takesAim_X10_hasAim
theorem dX10_takesAim_0 : decode cX10_takesAim 0 = .ok (.aload_n 0, 1) := by decide +kernel
theorem dX10_takesAim_1 : decode cX10_takesAim 1 = .ok (.iload_n 1, 1) := by decide +kernel
theorem dX10_takesAim_2 : decode cX10_takesAim 2 = .ok (.iload_n 2, 1) := by decide +kernel
theorem dX10_takesAim_3 : decode cX10_takesAim 3 = .ok (.iload_n 3, 1) := by decide +kernel
theorem dX10_takesAim_4 : decode cX10_takesAim 4 = .ok (.iload 4, 2) := by decide +kernel
theorem dX10_takesAim_6 : decode cX10_takesAim 6 = .ok (.invokevirtual 155, 3) := by decide +kernel
theorem dX10_takesAim_9 : decode cX10_takesAim 9 = .ok (.istore 5, 2) := by decide +kernel
theorem dX10_takesAim_11 : decode cX10_takesAim 11 = .ok (.iload 5, 2) := by decide +kernel
theorem dX10_takesAim_13 : decode cX10_takesAim 13 = .ok (.ifCond .eq 12, 3) := by decide +kernel
theorem dX10_takesAim_16 : decode cX10_takesAim 16 = .ok (.aload_n 0, 1) := by decide +kernel
theorem dX10_takesAim_17 : decode cX10_takesAim 17 = .ok (.getfield 64, 3) := by decide +kernel
theorem dX10_takesAim_20 : decode cX10_takesAim 20 = .ok (.iload_n 1, 1) := by decide +kernel
theorem dX10_takesAim_21 : decode cX10_takesAim 21 = .ok (.iload_n 2, 1) := by decide +kernel
theorem dX10_takesAim_22 : decode cX10_takesAim 22 = .ok (.invokevirtual 159, 3) := by decide +kernel
theorem dX10_takesAim_25 : decode cX10_takesAim 25 = .ok (.iload 5, 2) := by decide +kernel
theorem dX10_takesAim_27 : decode cX10_takesAim 27 = .ok (.ireturn, 1) := by decide +kernel
theorem dX10_isAmong_0 : decode cX10_isAmong 0 = .ok (.iload_n 0, 1) := by decide +kernel
theorem dX10_isAmong_1 : decode cX10_isAmong 1 = .ok (.iload_n 1, 1) := by decide +kernel
theorem dX10_isAmong_2 : decode cX10_isAmong 2 = .ok (.if_icmp .lt 12, 3) := by decide +kernel
theorem dX10_isAmong_5 : decode cX10_isAmong 5 = .ok (.iload_n 0, 1) := by decide +kernel
theorem dX10_isAmong_6 : decode cX10_isAmong 6 = .ok (.iload_n 2, 1) := by decide +kernel
theorem dX10_isAmong_7 : decode cX10_isAmong 7 = .ok (.if_icmp .gt 7, 3) := by decide +kernel
theorem dX10_isAmong_10 : decode cX10_isAmong 10 = .ok (.iconst 1, 1) := by decide +kernel
theorem dX10_isAmong_11 : decode cX10_isAmong 11 = .ok (.goto 4, 3) := by decide +kernel
theorem dX10_isAmong_14 : decode cX10_isAmong 14 = .ok (.iconst 0, 1) := by decide +kernel
theorem dX10_isAmong_15 : decode cX10_isAmong 15 = .ok (.ireturn, 1) := by decide +kernel
set_option maxRecDepth 20000 in
theorem ggX10_yard_X10_hasYard : GoodIn wsX10_yard wsX10_hasYard := goodIn_r _ [6, 7, 8, 9, 10, 11, 5, 12, 36, 37, 38, 39, 40, 41, 42, 43, 44, 45, 46, 47, 48, 49, 50, 51, 52, 53, 54, 55, 56, 57, 58, 59] (by decide +kernel) (by decide +kernel)
set_option maxRecDepth 20000 in
theorem gX10_yard_X10_hasYard : GoodIn wsX10_yard (wsV RX10 145 RX10 yX10_hasYard wsX10_hasYard) := goodIn_app (goodIn_of _ (by decide +kernel)) ggX10_yard_X10_hasYard
theorem dX10_yard_0 : decode cX10_yard 0 = .ok (.aload_n 0, 1) := by decide +kernel
theorem dX10_yard_1 : decode cX10_yard 1 = .ok (.iload_n 1, 1) := by decide +kernel
theorem dX10_yard_2 : decode cX10_yard 2 = .ok (.invokevirtual 145, 3) := by decide +kernel
theorem dX10_yard_5 : decode cX10_yard 5 = .ok (.ifCond .ne 6, 3) := by decide +kernel
theorem dX10_yard_8 : decode cX10_yard 8 = .ok (.bipush (-2), 2) := by decide +kernel
theorem dX10_yard_10 : decode cX10_yard 10 = .ok (.ireturn, 1) := by decide +kernel
theorem dX10_yard_11 : decode cX10_yard 11 = .ok (.iload_n 2, 1) := by decide +kernel
theorem dX10_yard_12 : decode cX10_yard 12 = .ok (.tableswitch 58 0 2 #[28, 40, 49], 28) := by decide +kernel
theorem dX10_yard_40 : decode cX10_yard 40 = .ok (.aload_n 0, 1) := by decide +kernel
theorem dX10_yard_41 : decode cX10_yard 41 = .ok (.getfield 55, 3) := by decide +kernel
theorem dX10_yard_44 : decode cX10_yard 44 = .ok (.iload_n 1, 1) := by decide +kernel
theorem dX10_yard_45 : decode cX10_yard 45 = .ok (.invokevirtual 163, 3) := by decide +kernel
theorem dX10_yard_48 : decode cX10_yard 48 = .ok (.bipush 10, 2) := by decide +kernel
theorem dX10_yard_50 : decode cX10_yard 50 = .ok (.iadd, 1) := by decide +kernel
theorem dX10_yard_51 : decode cX10_yard 51 = .ok (.ireturn, 1) := by decide +kernel
theorem dX10_yard_52 : decode cX10_yard 52 = .ok (.aload_n 0, 1) := by decide +kernel
theorem dX10_yard_53 : decode cX10_yard 53 = .ok (.getfield 55, 3) := by decide +kernel
theorem dX10_yard_56 : decode cX10_yard 56 = .ok (.iload_n 1, 1) := by decide +kernel
theorem dX10_yard_57 : decode cX10_yard 57 = .ok (.invokevirtual 167, 3) := by decide +kernel
theorem dX10_yard_60 : decode cX10_yard 60 = .ok (.ireturn, 1) := by decide +kernel
theorem dX10_yard_61 : decode cX10_yard 61 = .ok (.aload_n 0, 1) := by decide +kernel
theorem dX10_yard_62 : decode cX10_yard 62 = .ok (.getfield 55, 3) := by decide +kernel
theorem dX10_yard_65 : decode cX10_yard 65 = .ok (.iload_n 1, 1) := by decide +kernel
theorem dX10_yard_66 : decode cX10_yard 66 = .ok (.invokevirtual 170, 3) := by decide +kernel
theorem dX10_yard_69 : decode cX10_yard 69 = .ok (.ireturn, 1) := by decide +kernel
theorem dX10_yard_70 : decode cX10_yard 70 = .ok (.bipush (-2), 2) := by decide +kernel
theorem dX10_yard_72 : decode cX10_yard 72 = .ok (.ireturn, 1) := by decide +kernel
set_option maxRecDepth 20000 in
theorem ggX10_coach_X6_has : GoodIn wsX10_coach wsX6_has := goodIn_r _ [7, 8, 44, 45, 46, 47] (by decide +kernel) (by decide +kernel)
set_option maxRecDepth 20000 in
theorem gX10_coach_X6_has : GoodIn wsX10_coach (wsV RX10 139 RX6 yX6_has wsX6_has) := goodIn_app (goodIn_of _ (by decide +kernel)) ggX10_coach_X6_has
theorem dX10_coach_0 : decode cX10_coach 0 = .ok (.aload_n 0, 1) := by decide +kernel
theorem dX10_coach_1 : decode cX10_coach 1 = .ok (.getfield 27, 3) := by decide +kernel
theorem dX10_coach_4 : decode cX10_coach 4 = .ok (.getfield 173, 3) := by decide +kernel
theorem dX10_coach_7 : decode cX10_coach 7 = .ok (.iload_n 1, 1) := by decide +kernel
theorem dX10_coach_8 : decode cX10_coach 8 = .ok (.invokevirtual 139, 3) := by decide +kernel
theorem dX10_coach_11 : decode cX10_coach 11 = .ok (.ifCond .eq 12, 3) := by decide +kernel
theorem dX10_coach_14 : decode cX10_coach 14 = .ok (.iload_n 2, 1) := by decide +kernel
theorem dX10_coach_15 : decode cX10_coach 15 = .ok (.iconst 0, 1) := by decide +kernel
theorem dX10_coach_16 : decode cX10_coach 16 = .ok (.iconst 4, 1) := by decide +kernel
theorem dX10_coach_17 : decode cX10_coach 17 = .ok (.invokestatic 176, 3) := by decide +kernel
theorem dX10_coach_20 : decode cX10_coach 20 = .ok (.ifCond .ne 6, 3) := by decide +kernel
theorem dX10_coach_23 : decode cX10_coach 23 = .ok (.bipush (-2), 2) := by decide +kernel
theorem dX10_coach_25 : decode cX10_coach 25 = .ok (.ireturn, 1) := by decide +kernel
theorem dX10_coach_26 : decode cX10_coach 26 = .ok (.aload_n 0, 1) := by decide +kernel
theorem dX10_coach_27 : decode cX10_coach 27 = .ok (.getfield 27, 3) := by decide +kernel
theorem dX10_coach_30 : decode cX10_coach 30 = .ok (.getfield 173, 3) := by decide +kernel
theorem dX10_coach_33 : decode cX10_coach 33 = .ok (.iload_n 1, 1) := by decide +kernel
theorem dX10_coach_34 : decode cX10_coach 34 = .ok (.iload_n 2, 1) := by decide +kernel
theorem dX10_coach_35 : decode cX10_coach 35 = .ok (.invokevirtual 179, 3) := by decide +kernel
theorem dX10_coach_38 : decode cX10_coach 38 = .ok (.ireturn, 1) := by decide +kernel
set_option maxRecDepth 20000 in
theorem ggX10_rain_X10_hasLine : GoodIn wsX10_rain wsX10_hasLine := goodIn_r _ [8, 9, 10, 56, 57, 58, 59, 60, 61, 62, 63, 64, 65, 66, 67, 68, 69, 70, 77, 78, 79, 80, 81, 82, 83, 84, 85] (by decide +kernel) (by decide +kernel)
set_option maxRecDepth 20000 in
theorem gX10_rain_X10_hasLine : GoodIn wsX10_rain (wsV RX10 131 RX10 yX10_hasLine wsX10_hasLine) := goodIn_app (goodIn_of _ (by decide +kernel)) ggX10_rain_X10_hasLine
theorem dX10_rain_0 : decode cX10_rain 0 = .ok (.aload_n 0, 1) := by decide +kernel
theorem dX10_rain_1 : decode cX10_rain 1 = .ok (.invokevirtual 131, 3) := by decide +kernel
theorem dX10_rain_4 : decode cX10_rain 4 = .ok (.ifCond .eq 13, 3) := by decide +kernel
theorem dX10_rain_7 : decode cX10_rain 7 = .ok (.iload_n 1, 1) := by decide +kernel
theorem dX10_rain_8 : decode cX10_rain 8 = .ok (.iconst 0, 1) := by decide +kernel
theorem dX10_rain_9 : decode cX10_rain 9 = .ok (.bipush 100, 2) := by decide +kernel
theorem dX10_rain_11 : decode cX10_rain 11 = .ok (.invokestatic 176, 3) := by decide +kernel
theorem dX10_rain_14 : decode cX10_rain 14 = .ok (.ifCond .ne 6, 3) := by decide +kernel
theorem dX10_rain_17 : decode cX10_rain 17 = .ok (.bipush (-2), 2) := by decide +kernel
theorem dX10_rain_19 : decode cX10_rain 19 = .ok (.ireturn, 1) := by decide +kernel
theorem dX10_rain_20 : decode cX10_rain 20 = .ok (.aload_n 0, 1) := by decide +kernel
theorem dX10_rain_21 : decode cX10_rain 21 = .ok (.getfield 55, 3) := by decide +kernel
theorem dX10_rain_24 : decode cX10_rain 24 = .ok (.getfield 183, 3) := by decide +kernel
theorem dX10_rain_27 : decode cX10_rain 27 = .ok (.istore_n 2, 1) := by decide +kernel
theorem dX10_rain_28 : decode cX10_rain 28 = .ok (.iload_n 1, 1) := by decide +kernel
theorem dX10_rain_29 : decode cX10_rain 29 = .ok (.iload_n 2, 1) := by decide +kernel
theorem dX10_rain_30 : decode cX10_rain 30 = .ok (.if_icmp .eq 18, 3) := by decide +kernel
theorem dX10_rain_33 : decode cX10_rain 33 = .ok (.aload_n 0, 1) := by decide +kernel
theorem dX10_rain_34 : decode cX10_rain 34 = .ok (.getfield 55, 3) := by decide +kernel
theorem dX10_rain_37 : decode cX10_rain 37 = .ok (.iload_n 1, 1) := by decide +kernel
theorem dX10_rain_38 : decode cX10_rain 38 = .ok (.invokevirtual 186, 3) := by decide +kernel
theorem dX10_rain_41 : decode cX10_rain 41 = .ok (.aload_n 0, 1) := by decide +kernel
theorem dX10_rain_42 : decode cX10_rain 42 = .ok (.getfield 64, 3) := by decide +kernel
theorem dX10_rain_45 : decode cX10_rain 45 = .ok (.invokevirtual 122, 3) := by decide +kernel
theorem dX10_rain_48 : decode cX10_rain 48 = .ok (.iload_n 2, 1) := by decide +kernel
theorem dX10_rain_49 : decode cX10_rain 49 = .ok (.ireturn, 1) := by decide +kernel
set_option maxRecDepth 20000 in
theorem ggX10_post_X6_has : GoodIn wsX10_post wsX6_has := goodIn_r _ [7, 8, 54, 55, 56, 57] (by decide +kernel) (by decide +kernel)
set_option maxRecDepth 20000 in
theorem gX10_post_X6_has : GoodIn wsX10_post (wsV RX10 139 RX6 yX6_has wsX6_has) := goodIn_app (goodIn_of _ (by decide +kernel)) ggX10_post_X6_has
theorem dX10_post_0 : decode cX10_post 0 = .ok (.aload_n 0, 1) := by decide +kernel
theorem dX10_post_1 : decode cX10_post 1 = .ok (.getfield 27, 3) := by decide +kernel
theorem dX10_post_4 : decode cX10_post 4 = .ok (.getfield 173, 3) := by decide +kernel
theorem dX10_post_7 : decode cX10_post 7 = .ok (.iload_n 1, 1) := by decide +kernel
theorem dX10_post_8 : decode cX10_post 8 = .ok (.invokevirtual 139, 3) := by decide +kernel
theorem dX10_post_11 : decode cX10_post 11 = .ok (.ifCond .eq 11, 3) := by decide +kernel
theorem dX10_post_14 : decode cX10_post 14 = .ok (.aload_n 0, 1) := by decide +kernel
theorem dX10_post_15 : decode cX10_post 15 = .ok (.iload_n 2, 1) := by decide +kernel
theorem dX10_post_16 : decode cX10_post 16 = .ok (.invokevirtual 145, 3) := by decide +kernel
theorem dX10_post_19 : decode cX10_post 19 = .ok (.ifCond .ne 6, 3) := by decide +kernel
theorem dX10_post_22 : decode cX10_post 22 = .ok (.bipush (-2), 2) := by decide +kernel
theorem dX10_post_24 : decode cX10_post 24 = .ok (.ireturn, 1) := by decide +kernel
theorem dX10_post_25 : decode cX10_post 25 = .ok (.aload_n 0, 1) := by decide +kernel
theorem dX10_post_26 : decode cX10_post 26 = .ok (.getfield 27, 3) := by decide +kernel
theorem dX10_post_29 : decode cX10_post 29 = .ok (.getfield 173, 3) := by decide +kernel
theorem dX10_post_32 : decode cX10_post 32 = .ok (.iload_n 1, 1) := by decide +kernel
theorem dX10_post_33 : decode cX10_post 33 = .ok (.iconst 3, 1) := by decide +kernel
theorem dX10_post_34 : decode cX10_post 34 = .ok (.invokevirtual 179, 3) := by decide +kernel
theorem dX10_post_37 : decode cX10_post 37 = .ok (.istore_n 3, 1) := by decide +kernel
theorem dX10_post_38 : decode cX10_post 38 = .ok (.aload_n 0, 1) := by decide +kernel
theorem dX10_post_39 : decode cX10_post 39 = .ok (.getfield 27, 3) := by decide +kernel
theorem dX10_post_42 : decode cX10_post 42 = .ok (.getfield 173, 3) := by decide +kernel
theorem dX10_post_45 : decode cX10_post 45 = .ok (.iload_n 1, 1) := by decide +kernel
theorem dX10_post_46 : decode cX10_post 46 = .ok (.iconst 3, 1) := by decide +kernel
theorem dX10_post_47 : decode cX10_post 47 = .ok (.iload_n 2, 1) := by decide +kernel
theorem dX10_post_48 : decode cX10_post 48 = .ok (.invokevirtual 189, 3) := by decide +kernel
theorem dX10_post_51 : decode cX10_post 51 = .ok (.iload_n 3, 1) := by decide +kernel
theorem dX10_post_52 : decode cX10_post 52 = .ok (.ireturn, 1) := by decide +kernel
set_option maxRecDepth 20000 in
theorem ggX10_shift_X6_has : GoodIn wsX10_shift wsX6_has := goodIn_r _ [7, 8, 48, 49, 50, 51] (by decide +kernel) (by decide +kernel)
set_option maxRecDepth 20000 in
theorem gX10_shift_X6_has : GoodIn wsX10_shift (wsV RX10 139 RX6 yX6_has wsX6_has) := goodIn_app (goodIn_of _ (by decide +kernel)) ggX10_shift_X6_has
theorem dX10_shift_0 : decode cX10_shift 0 = .ok (.aload_n 0, 1) := by decide +kernel
theorem dX10_shift_1 : decode cX10_shift 1 = .ok (.getfield 27, 3) := by decide +kernel
theorem dX10_shift_4 : decode cX10_shift 4 = .ok (.getfield 193, 3) := by decide +kernel
theorem dX10_shift_7 : decode cX10_shift 7 = .ok (.iload_n 1, 1) := by decide +kernel
theorem dX10_shift_8 : decode cX10_shift 8 = .ok (.invokevirtual 139, 3) := by decide +kernel
theorem dX10_shift_11 : decode cX10_shift 11 = .ok (.ifCond .eq 14, 3) := by decide +kernel
theorem dX10_shift_14 : decode cX10_shift 14 = .ok (.iload_n 2, 1) := by decide +kernel
theorem dX10_shift_15 : decode cX10_shift 15 = .ok (.iconst 0, 1) := by decide +kernel
theorem dX10_shift_16 : decode cX10_shift 16 = .ok (.sipush 300, 3) := by decide +kernel
theorem dX10_shift_19 : decode cX10_shift 19 = .ok (.invokestatic 176, 3) := by decide +kernel
theorem dX10_shift_22 : decode cX10_shift 22 = .ok (.ifCond .ne 6, 3) := by decide +kernel
theorem dX10_shift_25 : decode cX10_shift 25 = .ok (.bipush (-2), 2) := by decide +kernel
theorem dX10_shift_27 : decode cX10_shift 27 = .ok (.ireturn, 1) := by decide +kernel
theorem dX10_shift_28 : decode cX10_shift 28 = .ok (.aload_n 0, 1) := by decide +kernel
theorem dX10_shift_29 : decode cX10_shift 29 = .ok (.getfield 27, 3) := by decide +kernel
theorem dX10_shift_32 : decode cX10_shift 32 = .ok (.getfield 193, 3) := by decide +kernel
theorem dX10_shift_35 : decode cX10_shift 35 = .ok (.iload_n 1, 1) := by decide +kernel
theorem dX10_shift_36 : decode cX10_shift 36 = .ok (.iconst 0, 1) := by decide +kernel
theorem dX10_shift_37 : decode cX10_shift 37 = .ok (.invokevirtual 179, 3) := by decide +kernel
theorem dX10_shift_40 : decode cX10_shift 40 = .ok (.istore_n 3, 1) := by decide +kernel
theorem dX10_shift_41 : decode cX10_shift 41 = .ok (.aload_n 0, 1) := by decide +kernel
theorem dX10_shift_42 : decode cX10_shift 42 = .ok (.getfield 27, 3) := by decide +kernel
theorem dX10_shift_45 : decode cX10_shift 45 = .ok (.getfield 193, 3) := by decide +kernel
theorem dX10_shift_48 : decode cX10_shift 48 = .ok (.iload_n 1, 1) := by decide +kernel
theorem dX10_shift_49 : decode cX10_shift 49 = .ok (.iconst 0, 1) := by decide +kernel
theorem dX10_shift_50 : decode cX10_shift 50 = .ok (.iload_n 2, 1) := by decide +kernel
theorem dX10_shift_51 : decode cX10_shift 51 = .ok (.invokevirtual 189, 3) := by decide +kernel
theorem dX10_shift_54 : decode cX10_shift 54 = .ok (.iload_n 3, 1) := by decide +kernel
theorem dX10_shift_55 : decode cX10_shift 55 = .ok (.ireturn, 1) := by decide +kernel
set_option maxRecDepth 20000 in
theorem ggX10_swap_X6_has : GoodIn wsX10_swap wsX6_has := goodIn_r _ [7, 8, 44, 45, 46, 47] (by decide +kernel) (by decide +kernel)
set_option maxRecDepth 20000 in
theorem gX10_swap_X6_has : GoodIn wsX10_swap (wsV RX10 139 RX6 yX6_has wsX6_has) := goodIn_app (goodIn_of _ (by decide +kernel)) ggX10_swap_X6_has
theorem dX10_swap_0 : decode cX10_swap 0 = .ok (.aload_n 0, 1) := by decide +kernel
theorem dX10_swap_1 : decode cX10_swap 1 = .ok (.getfield 27, 3) := by decide +kernel
theorem dX10_swap_4 : decode cX10_swap 4 = .ok (.getfield 173, 3) := by decide +kernel
theorem dX10_swap_7 : decode cX10_swap 7 = .ok (.astore_n 3, 1) := by decide +kernel
theorem dX10_swap_8 : decode cX10_swap 8 = .ok (.aload_n 3, 1) := by decide +kernel
theorem dX10_swap_9 : decode cX10_swap 9 = .ok (.iload_n 1, 1) := by decide +kernel
theorem dX10_swap_10 : decode cX10_swap 10 = .ok (.invokevirtual 139, 3) := by decide +kernel
theorem dX10_swap_13 : decode cX10_swap 13 = .ok (.ifCond .eq 31, 3) := by decide +kernel
theorem dX10_swap_16 : decode cX10_swap 16 = .ok (.aload_n 3, 1) := by decide +kernel
theorem dX10_swap_17 : decode cX10_swap 17 = .ok (.iload_n 2, 1) := by decide +kernel
theorem dX10_swap_18 : decode cX10_swap 18 = .ok (.invokevirtual 139, 3) := by decide +kernel
theorem dX10_swap_21 : decode cX10_swap 21 = .ok (.ifCond .eq 23, 3) := by decide +kernel
theorem dX10_swap_24 : decode cX10_swap 24 = .ok (.iload_n 1, 1) := by decide +kernel
theorem dX10_swap_25 : decode cX10_swap 25 = .ok (.iload_n 2, 1) := by decide +kernel
theorem dX10_swap_26 : decode cX10_swap 26 = .ok (.if_icmp .eq 18, 3) := by decide +kernel
theorem dX10_swap_29 : decode cX10_swap 29 = .ok (.aload_n 3, 1) := by decide +kernel
theorem dX10_swap_30 : decode cX10_swap 30 = .ok (.iload_n 1, 1) := by decide +kernel
theorem dX10_swap_31 : decode cX10_swap 31 = .ok (.iconst 0, 1) := by decide +kernel
theorem dX10_swap_32 : decode cX10_swap 32 = .ok (.invokevirtual 179, 3) := by decide +kernel
theorem dX10_swap_35 : decode cX10_swap 35 = .ok (.aload_n 3, 1) := by decide +kernel
theorem dX10_swap_36 : decode cX10_swap 36 = .ok (.iload_n 2, 1) := by decide +kernel
theorem dX10_swap_37 : decode cX10_swap 37 = .ok (.iconst 0, 1) := by decide +kernel
theorem dX10_swap_38 : decode cX10_swap 38 = .ok (.invokevirtual 179, 3) := by decide +kernel
theorem dX10_swap_41 : decode cX10_swap 41 = .ok (.if_icmp .eq 6, 3) := by decide +kernel
theorem dX10_swap_44 : decode cX10_swap 44 = .ok (.bipush (-2), 2) := by decide +kernel
theorem dX10_swap_46 : decode cX10_swap 46 = .ok (.ireturn, 1) := by decide +kernel
theorem dX10_swap_47 : decode cX10_swap 47 = .ok (.aload_n 3, 1) := by decide +kernel
theorem dX10_swap_48 : decode cX10_swap 48 = .ok (.iload_n 1, 1) := by decide +kernel
theorem dX10_swap_49 : decode cX10_swap 49 = .ok (.iconst 4, 1) := by decide +kernel
theorem dX10_swap_50 : decode cX10_swap 50 = .ok (.invokevirtual 179, 3) := by decide +kernel
theorem dX10_swap_53 : decode cX10_swap 53 = .ok (.istore 4, 2) := by decide +kernel
theorem dX10_swap_55 : decode cX10_swap 55 = .ok (.aload_n 3, 1) := by decide +kernel
theorem dX10_swap_56 : decode cX10_swap 56 = .ok (.iload_n 1, 1) := by decide +kernel
theorem dX10_swap_57 : decode cX10_swap 57 = .ok (.iconst 4, 1) := by decide +kernel
theorem dX10_swap_58 : decode cX10_swap 58 = .ok (.aload_n 3, 1) := by decide +kernel
theorem dX10_swap_59 : decode cX10_swap 59 = .ok (.iload_n 2, 1) := by decide +kernel
theorem dX10_swap_60 : decode cX10_swap 60 = .ok (.iconst 4, 1) := by decide +kernel
theorem dX10_swap_61 : decode cX10_swap 61 = .ok (.invokevirtual 179, 3) := by decide +kernel
theorem dX10_swap_64 : decode cX10_swap 64 = .ok (.invokevirtual 189, 3) := by decide +kernel
theorem dX10_swap_67 : decode cX10_swap 67 = .ok (.aload_n 3, 1) := by decide +kernel
theorem dX10_swap_68 : decode cX10_swap 68 = .ok (.iload_n 2, 1) := by decide +kernel
theorem dX10_swap_69 : decode cX10_swap 69 = .ok (.iconst 4, 1) := by decide +kernel
theorem dX10_swap_70 : decode cX10_swap 70 = .ok (.iload 4, 2) := by decide +kernel
theorem dX10_swap_72 : decode cX10_swap 72 = .ok (.invokevirtual 189, 3) := by decide +kernel
theorem dX10_swap_75 : decode cX10_swap 75 = .ok (.iconst 0, 1) := by decide +kernel
theorem dX10_swap_76 : decode cX10_swap 76 = .ok (.ireturn, 1) := by decide +kernel
set_option maxRecDepth 20000 in
theorem ggX10_tick_X10_hasRun : GoodIn wsX10_tick wsX10_hasRun := goodIn_r _ [6, 7, 8, 9, 10, 11, 12, 13, 14, 15, 16, 17, 5, 18, 19, 20, 21, 22, 23, 39, 40, 41, 42, 43, 44, 45, 46, 47, 48, 49, 50, 51, 52, 53, 54, 55, 56, 57, 58, 59, 60, 61, 62, 63, 64, 65, 66] (by decide +kernel) (by decide +kernel)
set_option maxRecDepth 20000 in
theorem gX10_tick_X10_hasRun : GoodIn wsX10_tick (wsV RX10 148 RX10 yX10_hasRun wsX10_hasRun) := goodIn_app (goodIn_of _ (by decide +kernel)) ggX10_tick_X10_hasRun
theorem dX10_tick_0 : decode cX10_tick 0 = .ok (.aload_n 0, 1) := by decide +kernel
theorem dX10_tick_1 : decode cX10_tick 1 = .ok (.iload_n 1, 1) := by decide +kernel
theorem dX10_tick_2 : decode cX10_tick 2 = .ok (.iload_n 2, 1) := by decide +kernel
theorem dX10_tick_3 : decode cX10_tick 3 = .ok (.iload_n 3, 1) := by decide +kernel
theorem dX10_tick_4 : decode cX10_tick 4 = .ok (.invokevirtual 148, 3) := by decide +kernel
theorem dX10_tick_7 : decode cX10_tick 7 = .ok (.ifCond .eq 23, 3) := by decide +kernel
theorem dX10_tick_10 : decode cX10_tick 10 = .ok (.iload 4, 2) := by decide +kernel
theorem dX10_tick_12 : decode cX10_tick 12 = .ok (.iconst 0, 1) := by decide +kernel
theorem dX10_tick_13 : decode cX10_tick 13 = .ok (.iconst 3, 1) := by decide +kernel
theorem dX10_tick_14 : decode cX10_tick 14 = .ok (.invokestatic 176, 3) := by decide +kernel
theorem dX10_tick_17 : decode cX10_tick 17 = .ok (.ifCond .eq 13, 3) := by decide +kernel
theorem dX10_tick_20 : decode cX10_tick 20 = .ok (.iload 5, 2) := by decide +kernel
theorem dX10_tick_22 : decode cX10_tick 22 = .ok (.iconst 0, 1) := by decide +kernel
theorem dX10_tick_23 : decode cX10_tick 23 = .ok (.iconst 1, 1) := by decide +kernel
theorem dX10_tick_24 : decode cX10_tick 24 = .ok (.invokestatic 176, 3) := by decide +kernel
theorem dX10_tick_27 : decode cX10_tick 27 = .ok (.ifCond .ne 6, 3) := by decide +kernel
theorem dX10_tick_30 : decode cX10_tick 30 = .ok (.bipush (-2), 2) := by decide +kernel
theorem dX10_tick_32 : decode cX10_tick 32 = .ok (.ireturn, 1) := by decide +kernel
theorem dX10_tick_33 : decode cX10_tick 33 = .ok (.aload_n 0, 1) := by decide +kernel
theorem dX10_tick_34 : decode cX10_tick 34 = .ok (.getfield 55, 3) := by decide +kernel
theorem dX10_tick_37 : decode cX10_tick 37 = .ok (.iload_n 1, 1) := by decide +kernel
theorem dX10_tick_38 : decode cX10_tick 38 = .ok (.iload_n 2, 1) := by decide +kernel
theorem dX10_tick_39 : decode cX10_tick 39 = .ok (.iload_n 3, 1) := by decide +kernel
theorem dX10_tick_40 : decode cX10_tick 40 = .ok (.iload 4, 2) := by decide +kernel
theorem dX10_tick_42 : decode cX10_tick 42 = .ok (.invokevirtual 196, 3) := by decide +kernel
theorem dX10_tick_45 : decode cX10_tick 45 = .ok (.istore 6, 2) := by decide +kernel
theorem dX10_tick_47 : decode cX10_tick 47 = .ok (.iload 5, 2) := by decide +kernel
theorem dX10_tick_49 : decode cX10_tick 49 = .ok (.ifCond .ne 10, 3) := by decide +kernel
theorem dX10_tick_52 : decode cX10_tick 52 = .ok (.iload_n 2, 1) := by decide +kernel
theorem dX10_tick_53 : decode cX10_tick 53 = .ok (.iload 6, 2) := by decide +kernel
theorem dX10_tick_55 : decode cX10_tick 55 = .ok (.iadd, 1) := by decide +kernel
theorem dX10_tick_56 : decode cX10_tick 56 = .ok (.goto 5, 3) := by decide +kernel
theorem dX10_tick_59 : decode cX10_tick 59 = .ok (.iload 6, 2) := by decide +kernel
theorem dX10_tick_61 : decode cX10_tick 61 = .ok (.ireturn, 1) := by decide +kernel
set_option maxRecDepth 20000 in
theorem ggX10_can_X10_takesAim : GoodIn wsX10_can wsX10_takesAim := goodIn_r _ [6, 1, 7, 8, 9, 5, 10, 11, 12, 13, 14, 15, 16, 17, 18, 19, 20, 21, 22, 23, 24, 25, 26, 27, 28, 29, 30, 31, 32, 33, 34, 35, 36, 37, 38, 39, 40, 41, 42, 43, 44, 45, 46, 47, 48, 49, 50, 51, 52, 53, 54, 55, 56, 57, 58, 59, 60, 61, 62, 63, 64, 65, 66, 67, 68, 69, 70, 71, 72, 73, 74, 75, 76, 77, 78, 79, 80, 81, 82, 83, 84, 85, 86, 87, 92, 93, 94, 95, 96, 97, 98, 99, 100, 101, 102, 103, 104, 105, 106, 107, 108, 109, 110, 111, 112, 113, 114, 115, 116, 117, 118, 119, 120, 121, 122, 123, 124, 125, 126, 127, 128, 129, 130, 131, 132] (by decide +kernel) (by decide +kernel)
set_option maxRecDepth 20000 in
theorem gX10_can_X10_takesAim : GoodIn wsX10_can (wsV RX10 200 RX10 yX10_takesAim wsX10_takesAim) := goodIn_app (goodIn_of _ (by decide +kernel)) ggX10_can_X10_takesAim
theorem dX10_can_0 : decode cX10_can 0 = .ok (.aload_n 0, 1) := by decide +kernel
theorem dX10_can_1 : decode cX10_can 1 = .ok (.iload_n 1, 1) := by decide +kernel
theorem dX10_can_2 : decode cX10_can 2 = .ok (.iload_n 2, 1) := by decide +kernel
theorem dX10_can_3 : decode cX10_can 3 = .ok (.iload_n 3, 1) := by decide +kernel
theorem dX10_can_4 : decode cX10_can 4 = .ok (.iload 4, 2) := by decide +kernel
theorem dX10_can_6 : decode cX10_can 6 = .ok (.invokevirtual 200, 3) := by decide +kernel
theorem dX10_can_9 : decode cX10_can 9 = .ok (.ifCond .ne 6, 3) := by decide +kernel
theorem dX10_can_12 : decode cX10_can 12 = .ok (.bipush (-2), 2) := by decide +kernel
theorem dX10_can_14 : decode cX10_can 14 = .ok (.ireturn, 1) := by decide +kernel
theorem dX10_can_15 : decode cX10_can 15 = .ok (.aload_n 0, 1) := by decide +kernel
theorem dX10_can_16 : decode cX10_can 16 = .ok (.getfield 64, 3) := by decide +kernel
theorem dX10_can_19 : decode cX10_can 19 = .ok (.iload_n 1, 1) := by decide +kernel
theorem dX10_can_20 : decode cX10_can 20 = .ok (.iload_n 2, 1) := by decide +kernel
theorem dX10_can_21 : decode cX10_can 21 = .ok (.iload_n 3, 1) := by decide +kernel
theorem dX10_can_22 : decode cX10_can 22 = .ok (.iload 4, 2) := by decide +kernel
theorem dX10_can_24 : decode cX10_can 24 = .ok (.invokevirtual 203, 3) := by decide +kernel
theorem dX10_can_27 : decode cX10_can 27 = .ok (.iconst (-1), 1) := by decide +kernel
theorem dX10_can_28 : decode cX10_can 28 = .ok (.if_icmp .ne 7, 3) := by decide +kernel
theorem dX10_can_31 : decode cX10_can 31 = .ok (.iconst 0, 1) := by decide +kernel
theorem dX10_can_32 : decode cX10_can 32 = .ok (.goto 4, 3) := by decide +kernel
theorem dX10_can_35 : decode cX10_can 35 = .ok (.iconst 1, 1) := by decide +kernel
theorem dX10_can_36 : decode cX10_can 36 = .ok (.ireturn, 1) := by decide +kernel
set_option maxRecDepth 20000 in
theorem ggX10_step_X10_takesAim : GoodIn wsX10_step wsX10_takesAim := goodIn_r _ [6, 1, 7, 8, 9, 5, 10, 11, 12, 13, 14, 15, 16, 17, 18, 19, 20, 21, 22, 23, 24, 25, 26, 27, 28, 29, 30, 31, 32, 33, 34, 35, 36, 37, 38, 39, 40, 41, 42, 43, 44, 45, 46, 47, 48, 49, 50, 51, 52, 53, 54, 55, 56, 57, 58, 59, 60, 61, 62, 63, 64, 65, 66, 67, 68, 69, 70, 71, 72, 73, 74, 75, 76, 77, 78, 79, 80, 81, 82, 83, 84, 85, 86, 87, 92, 93, 94, 95, 96, 97, 98, 99, 100, 101, 102, 103, 104, 105, 106, 107, 108, 109, 110, 111, 112, 113, 114, 115, 116, 117, 118, 119, 120, 121, 122, 123, 124, 125, 126, 127, 128, 129, 130, 131, 132] (by decide +kernel) (by decide +kernel)
set_option maxRecDepth 20000 in
theorem gX10_step_X10_takesAim : GoodIn wsX10_step (wsV RX10 200 RX10 yX10_takesAim wsX10_takesAim) := goodIn_app (goodIn_of _ (by decide +kernel)) ggX10_step_X10_takesAim
theorem dX10_step_0 : decode cX10_step 0 = .ok (.aload_n 0, 1) := by decide +kernel
theorem dX10_step_1 : decode cX10_step 1 = .ok (.iload_n 1, 1) := by decide +kernel
theorem dX10_step_2 : decode cX10_step 2 = .ok (.iload_n 2, 1) := by decide +kernel
theorem dX10_step_3 : decode cX10_step 3 = .ok (.iload_n 3, 1) := by decide +kernel
theorem dX10_step_4 : decode cX10_step 4 = .ok (.iload 4, 2) := by decide +kernel
theorem dX10_step_6 : decode cX10_step 6 = .ok (.invokevirtual 200, 3) := by decide +kernel
theorem dX10_step_9 : decode cX10_step 9 = .ok (.ifCond .ne 6, 3) := by decide +kernel
theorem dX10_step_12 : decode cX10_step 12 = .ok (.bipush (-2), 2) := by decide +kernel
theorem dX10_step_14 : decode cX10_step 14 = .ok (.ireturn, 1) := by decide +kernel
theorem dX10_step_15 : decode cX10_step 15 = .ok (.aload_n 0, 1) := by decide +kernel
theorem dX10_step_16 : decode cX10_step 16 = .ok (.getfield 64, 3) := by decide +kernel
theorem dX10_step_19 : decode cX10_step 19 = .ok (.iload_n 1, 1) := by decide +kernel
theorem dX10_step_20 : decode cX10_step 20 = .ok (.iload_n 2, 1) := by decide +kernel
theorem dX10_step_21 : decode cX10_step 21 = .ok (.iload_n 3, 1) := by decide +kernel
theorem dX10_step_22 : decode cX10_step 22 = .ok (.iload 4, 2) := by decide +kernel
theorem dX10_step_24 : decode cX10_step 24 = .ok (.invokevirtual 203, 3) := by decide +kernel
theorem dX10_step_27 : decode cX10_step 27 = .ok (.ireturn, 1) := by decide +kernel
set_option maxRecDepth 20000 in
theorem ggX10_handled_X10_takesAim : GoodIn wsX10_handled wsX10_takesAim := goodIn_r _ [9, 1, 10, 11, 12, 8, 13, 14, 15, 16, 17, 18, 19, 20, 21, 22, 23, 24, 25, 26, 27, 28, 29, 30, 31, 32, 33, 34, 35, 36, 37, 38, 39, 40, 41, 42, 43, 44, 45, 46, 47, 48, 49, 50, 51, 52, 53, 54, 55, 56, 57, 58, 59, 60, 61, 62, 63, 64, 65, 66, 67, 68, 69, 70, 71, 72, 73, 74, 75, 76, 77, 78, 79, 80, 81, 82, 83, 84, 85, 86, 87, 88, 89, 90, 108, 109, 110, 111, 112, 113, 114, 115, 116, 117, 118, 119, 120, 121, 122, 130, 131, 132, 133, 134, 135, 136, 137, 138, 139, 140, 141, 142, 123, 124, 125, 126, 127, 128, 129, 143, 144, 145, 146, 147, 148] (by decide +kernel) (by decide +kernel)
set_option maxRecDepth 20000 in
theorem gX10_handled_X10_takesAim : GoodIn wsX10_handled (wsV RX10 200 RX10 yX10_takesAim wsX10_takesAim) := goodIn_app (goodIn_of _ (by decide +kernel)) ggX10_handled_X10_takesAim
theorem dX10_handled_0 : decode cX10_handled 0 = .ok (.aload_n 0, 1) := by decide +kernel
theorem dX10_handled_1 : decode cX10_handled 1 = .ok (.iload_n 1, 1) := by decide +kernel
theorem dX10_handled_2 : decode cX10_handled 2 = .ok (.iload_n 2, 1) := by decide +kernel
theorem dX10_handled_3 : decode cX10_handled 3 = .ok (.iload_n 3, 1) := by decide +kernel
theorem dX10_handled_4 : decode cX10_handled 4 = .ok (.iload 4, 2) := by decide +kernel
theorem dX10_handled_6 : decode cX10_handled 6 = .ok (.invokevirtual 200, 3) := by decide +kernel
theorem dX10_handled_9 : decode cX10_handled 9 = .ok (.ifCond .eq 13, 3) := by decide +kernel
theorem dX10_handled_12 : decode cX10_handled 12 = .ok (.iload 5, 2) := by decide +kernel
theorem dX10_handled_14 : decode cX10_handled 14 = .ok (.iconst 0, 1) := by decide +kernel
theorem dX10_handled_15 : decode cX10_handled 15 = .ok (.iconst 2, 1) := by decide +kernel
theorem dX10_handled_16 : decode cX10_handled 16 = .ok (.invokestatic 176, 3) := by decide +kernel
theorem dX10_handled_19 : decode cX10_handled 19 = .ok (.ifCond .ne 6, 3) := by decide +kernel
theorem dX10_handled_22 : decode cX10_handled 22 = .ok (.bipush (-2), 2) := by decide +kernel
theorem dX10_handled_24 : decode cX10_handled 24 = .ok (.ireturn, 1) := by decide +kernel
theorem dX10_handled_25 : decode cX10_handled 25 = .ok (.aload_n 0, 1) := by decide +kernel
theorem dX10_handled_26 : decode cX10_handled 26 = .ok (.getfield 64, 3) := by decide +kernel
theorem dX10_handled_29 : decode cX10_handled 29 = .ok (.iload_n 1, 1) := by decide +kernel
theorem dX10_handled_30 : decode cX10_handled 30 = .ok (.iload_n 2, 1) := by decide +kernel
theorem dX10_handled_31 : decode cX10_handled 31 = .ok (.iload_n 3, 1) := by decide +kernel
theorem dX10_handled_32 : decode cX10_handled 32 = .ok (.iload 4, 2) := by decide +kernel
theorem dX10_handled_34 : decode cX10_handled 34 = .ok (.invokevirtual 206, 3) := by decide +kernel
theorem dX10_handled_37 : decode cX10_handled 37 = .ok (.ifCond .ne 5, 3) := by decide +kernel
theorem dX10_handled_40 : decode cX10_handled 40 = .ok (.iconst (-1), 1) := by decide +kernel
theorem dX10_handled_41 : decode cX10_handled 41 = .ok (.ireturn, 1) := by decide +kernel
theorem dX10_handled_42 : decode cX10_handled 42 = .ok (.iload 5, 2) := by decide +kernel
theorem dX10_handled_44 : decode cX10_handled 44 = .ok (.ifCond .ne 11, 3) := by decide +kernel
theorem dX10_handled_47 : decode cX10_handled 47 = .ok (.aload_n 0, 1) := by decide +kernel
theorem dX10_handled_48 : decode cX10_handled 48 = .ok (.getfield 64, 3) := by decide +kernel
theorem dX10_handled_51 : decode cX10_handled 51 = .ok (.getfield 209, 3) := by decide +kernel
theorem dX10_handled_54 : decode cX10_handled 54 = .ok (.ireturn, 1) := by decide +kernel
theorem dX10_handled_55 : decode cX10_handled 55 = .ok (.iload 5, 2) := by decide +kernel
theorem dX10_handled_57 : decode cX10_handled 57 = .ok (.iconst 1, 1) := by decide +kernel
theorem dX10_handled_58 : decode cX10_handled 58 = .ok (.if_icmp .ne 13, 3) := by decide +kernel
theorem dX10_handled_61 : decode cX10_handled 61 = .ok (.aload_n 0, 1) := by decide +kernel
theorem dX10_handled_62 : decode cX10_handled 62 = .ok (.getfield 64, 3) := by decide +kernel
theorem dX10_handled_65 : decode cX10_handled 65 = .ok (.getfield 212, 3) := by decide +kernel
theorem dX10_handled_68 : decode cX10_handled 68 = .ok (.goto 10, 3) := by decide +kernel
theorem dX10_handled_71 : decode cX10_handled 71 = .ok (.aload_n 0, 1) := by decide +kernel
theorem dX10_handled_72 : decode cX10_handled 72 = .ok (.getfield 64, 3) := by decide +kernel
theorem dX10_handled_75 : decode cX10_handled 75 = .ok (.getfield 215, 3) := by decide +kernel
theorem dX10_handled_78 : decode cX10_handled 78 = .ok (.ireturn, 1) := by decide +kernel
set_option maxRecDepth 20000 in
theorem ggX10_hard_X10_leastMeasure : GoodIn wsX10_hard wsX10_leastMeasure := goodIn_r _ [5, 6, 7, 8, 9, 10, 11, 12, 4, 13, 14, 15, 16, 17, 18, 19, 20, 21, 22, 23, 24, 25, 26, 27, 28, 29, 30, 31, 32, 33, 34, 35, 36, 37, 38, 39, 40, 41, 42, 43, 44, 45, 46, 47, 48, 49, 50, 51, 52, 53, 54, 55, 56, 57, 58, 59, 60, 61, 62, 63, 64, 65, 66, 67, 68, 69, 70, 71, 72, 73, 74, 75, 76, 77, 78, 79, 80, 81, 82, 83, 84, 85, 86, 87, 88, 89, 90, 91, 92, 93, 94, 95, 96, 97, 98, 99, 100, 101, 102, 103, 104, 105, 106, 107, 108, 109, 110, 111, 112, 113, 114, 115, 116, 117, 118, 119, 120, 121, 122, 123, 124, 125, 126, 127, 128, 129, 130, 131, 132, 133, 134] (by decide +kernel) (by decide +kernel)
set_option maxRecDepth 20000 in
theorem gX10_hard_X10_leastMeasure : GoodIn wsX10_hard (wsV RX10 218 RX10 yX10_leastMeasure wsX10_leastMeasure) := goodIn_app (goodIn_of _ (by decide +kernel)) ggX10_hard_X10_leastMeasure
theorem dX10_hard_0 : decode cX10_hard 0 = .ok (.aload_n 0, 1) := by decide +kernel
theorem dX10_hard_1 : decode cX10_hard 1 = .ok (.iload_n 1, 1) := by decide +kernel
theorem dX10_hard_2 : decode cX10_hard 2 = .ok (.iload_n 2, 1) := by decide +kernel
theorem dX10_hard_3 : decode cX10_hard 3 = .ok (.iload_n 3, 1) := by decide +kernel
theorem dX10_hard_4 : decode cX10_hard 4 = .ok (.iload 4, 2) := by decide +kernel
theorem dX10_hard_6 : decode cX10_hard 6 = .ok (.iconst 0, 1) := by decide +kernel
theorem dX10_hard_7 : decode cX10_hard 7 = .ok (.invokevirtual 218, 3) := by decide +kernel
theorem dX10_hard_10 : decode cX10_hard 10 = .ok (.ireturn, 1) := by decide +kernel
set_option maxRecDepth 20000 in
theorem ggX10_quick_X10_leastMeasure : GoodIn wsX10_quick wsX10_leastMeasure := goodIn_r _ [5, 6, 7, 8, 9, 10, 11, 12, 4, 13, 14, 15, 16, 17, 18, 19, 20, 21, 22, 23, 24, 25, 26, 27, 28, 29, 30, 31, 32, 33, 34, 35, 36, 37, 38, 39, 40, 41, 42, 43, 44, 45, 46, 47, 48, 49, 50, 51, 52, 53, 54, 55, 56, 57, 58, 59, 60, 61, 62, 63, 64, 65, 66, 67, 68, 69, 70, 71, 72, 73, 74, 75, 76, 77, 78, 79, 80, 81, 82, 83, 84, 85, 86, 87, 88, 89, 90, 91, 92, 93, 94, 95, 96, 97, 98, 99, 100, 101, 102, 103, 104, 105, 106, 107, 108, 109, 110, 111, 112, 113, 114, 115, 116, 117, 118, 119, 120, 121, 122, 123, 124, 125, 126, 127, 128, 129, 130, 131, 132, 133, 134] (by decide +kernel) (by decide +kernel)
set_option maxRecDepth 20000 in
theorem gX10_quick_X10_leastMeasure : GoodIn wsX10_quick (wsV RX10 218 RX10 yX10_leastMeasure wsX10_leastMeasure) := goodIn_app (goodIn_of _ (by decide +kernel)) ggX10_quick_X10_leastMeasure
theorem dX10_quick_0 : decode cX10_quick 0 = .ok (.aload_n 0, 1) := by decide +kernel
theorem dX10_quick_1 : decode cX10_quick 1 = .ok (.iload_n 1, 1) := by decide +kernel
theorem dX10_quick_2 : decode cX10_quick 2 = .ok (.iload_n 2, 1) := by decide +kernel
theorem dX10_quick_3 : decode cX10_quick 3 = .ok (.iload_n 3, 1) := by decide +kernel
theorem dX10_quick_4 : decode cX10_quick 4 = .ok (.iload 4, 2) := by decide +kernel
theorem dX10_quick_6 : decode cX10_quick 6 = .ok (.iconst 1, 1) := by decide +kernel
theorem dX10_quick_7 : decode cX10_quick 7 = .ok (.invokevirtual 218, 3) := by decide +kernel
theorem dX10_quick_10 : decode cX10_quick 10 = .ok (.ireturn, 1) := by decide +kernel
set_option maxRecDepth 20000 in
theorem ggX10_jolt_X10_leastMeasure : GoodIn wsX10_jolt wsX10_leastMeasure := goodIn_r _ [5, 6, 7, 8, 9, 10, 11, 12, 4, 13, 14, 15, 16, 17, 18, 19, 20, 21, 22, 23, 24, 25, 26, 27, 28, 29, 30, 31, 32, 33, 34, 35, 36, 37, 38, 39, 40, 41, 42, 43, 44, 45, 46, 47, 48, 49, 50, 51, 52, 53, 54, 55, 56, 57, 58, 59, 60, 61, 62, 63, 64, 65, 66, 67, 68, 69, 70, 71, 72, 73, 74, 75, 76, 77, 78, 79, 80, 81, 82, 83, 84, 85, 86, 87, 88, 89, 90, 91, 92, 93, 94, 95, 96, 97, 98, 99, 100, 101, 102, 103, 104, 105, 106, 107, 108, 109, 110, 111, 112, 113, 114, 115, 116, 117, 118, 119, 120, 121, 122, 123, 124, 125, 126, 127, 128, 129, 130, 131, 132, 133, 134] (by decide +kernel) (by decide +kernel)
set_option maxRecDepth 20000 in
theorem gX10_jolt_X10_leastMeasure : GoodIn wsX10_jolt (wsV RX10 218 RX10 yX10_leastMeasure wsX10_leastMeasure) := goodIn_app (goodIn_of _ (by decide +kernel)) ggX10_jolt_X10_leastMeasure
theorem dX10_jolt_0 : decode cX10_jolt 0 = .ok (.aload_n 0, 1) := by decide +kernel
theorem dX10_jolt_1 : decode cX10_jolt 1 = .ok (.iload_n 1, 1) := by decide +kernel
theorem dX10_jolt_2 : decode cX10_jolt 2 = .ok (.iload_n 2, 1) := by decide +kernel
theorem dX10_jolt_3 : decode cX10_jolt 3 = .ok (.iload_n 3, 1) := by decide +kernel
theorem dX10_jolt_4 : decode cX10_jolt 4 = .ok (.iload 4, 2) := by decide +kernel
theorem dX10_jolt_6 : decode cX10_jolt 6 = .ok (.iconst 2, 1) := by decide +kernel
theorem dX10_jolt_7 : decode cX10_jolt 7 = .ok (.invokevirtual 218, 3) := by decide +kernel
theorem dX10_jolt_10 : decode cX10_jolt 10 = .ok (.ireturn, 1) := by decide +kernel
set_option maxRecDepth 20000 in
theorem ggX10_leastMeasure_X10_hasAim : GoodIn wsX10_leastMeasure wsX10_hasAim := goodIn_r _ [9, 1, 2, 10, 11, 12, 8, 13, 14, 15, 16, 17, 18, 19, 20, 21, 22, 23, 24, 25, 26, 27, 28, 29, 94, 95, 96, 97, 98, 99, 100, 101, 102, 103, 104, 105, 106, 107, 108, 109, 110, 111, 112, 113, 114, 115, 116, 117, 118, 119, 120, 121] (by decide +kernel) (by decide +kernel)
set_option maxRecDepth 20000 in
theorem gX10_leastMeasure_X10_hasAim : GoodIn wsX10_leastMeasure (wsV RX10 155 RX10 yX10_hasAim wsX10_hasAim) := goodIn_app (goodIn_of _ (by decide +kernel)) ggX10_leastMeasure_X10_hasAim
theorem dX10_leastMeasure_0 : decode cX10_leastMeasure 0 = .ok (.aload_n 0, 1) := by decide +kernel
theorem dX10_leastMeasure_1 : decode cX10_leastMeasure 1 = .ok (.iload_n 1, 1) := by decide +kernel
theorem dX10_leastMeasure_2 : decode cX10_leastMeasure 2 = .ok (.iload_n 2, 1) := by decide +kernel
theorem dX10_leastMeasure_3 : decode cX10_leastMeasure 3 = .ok (.iload_n 3, 1) := by decide +kernel
theorem dX10_leastMeasure_4 : decode cX10_leastMeasure 4 = .ok (.iload 4, 2) := by decide +kernel
theorem dX10_leastMeasure_6 : decode cX10_leastMeasure 6 = .ok (.invokevirtual 155, 3) := by decide +kernel
theorem dX10_leastMeasure_9 : decode cX10_leastMeasure 9 = .ok (.ifCond .ne 6, 3) := by decide +kernel
theorem dX10_leastMeasure_12 : decode cX10_leastMeasure 12 = .ok (.bipush (-2), 2) := by decide +kernel
theorem dX10_leastMeasure_14 : decode cX10_leastMeasure 14 = .ok (.ireturn, 1) := by decide +kernel
theorem dX10_leastMeasure_15 : decode cX10_leastMeasure 15 = .ok (.aload_n 0, 1) := by decide +kernel
theorem dX10_leastMeasure_16 : decode cX10_leastMeasure 16 = .ok (.getfield 27, 3) := by decide +kernel
theorem dX10_leastMeasure_19 : decode cX10_leastMeasure 19 = .ok (.getfield 152, 3) := by decide +kernel
theorem dX10_leastMeasure_22 : decode cX10_leastMeasure 22 = .ok (.iload_n 2, 1) := by decide +kernel
theorem dX10_leastMeasure_23 : decode cX10_leastMeasure 23 = .ok (.iconst 1, 1) := by decide +kernel
theorem dX10_leastMeasure_24 : decode cX10_leastMeasure 24 = .ok (.invokevirtual 179, 3) := by decide +kernel
theorem dX10_leastMeasure_27 : decode cX10_leastMeasure 27 = .ok (.istore 6, 2) := by decide +kernel
theorem dX10_leastMeasure_29 : decode cX10_leastMeasure 29 = .ok (.aload_n 0, 1) := by decide +kernel
theorem dX10_leastMeasure_30 : decode cX10_leastMeasure 30 = .ok (.getfield 71, 3) := by decide +kernel
theorem dX10_leastMeasure_33 : decode cX10_leastMeasure 33 = .ok (.aload_n 0, 1) := by decide +kernel
theorem dX10_leastMeasure_34 : decode cX10_leastMeasure 34 = .ok (.getfield 55, 3) := by decide +kernel
theorem dX10_leastMeasure_37 : decode cX10_leastMeasure 37 = .ok (.iload_n 1, 1) := by decide +kernel
theorem dX10_leastMeasure_38 : decode cX10_leastMeasure 38 = .ok (.iload_n 3, 1) := by decide +kernel
theorem dX10_leastMeasure_39 : decode cX10_leastMeasure 39 = .ok (.iload 4, 2) := by decide +kernel
theorem dX10_leastMeasure_41 : decode cX10_leastMeasure 41 = .ok (.iload 5, 2) := by decide +kernel
theorem dX10_leastMeasure_43 : decode cX10_leastMeasure 43 = .ok (.iload 6, 2) := by decide +kernel
theorem dX10_leastMeasure_45 : decode cX10_leastMeasure 45 = .ok (.invokevirtual 222, 3) := by decide +kernel
theorem dX10_leastMeasure_48 : decode cX10_leastMeasure 48 = .ok (.aload_n 0, 1) := by decide +kernel
theorem dX10_leastMeasure_49 : decode cX10_leastMeasure 49 = .ok (.getfield 71, 3) := by decide +kernel
theorem dX10_leastMeasure_52 : decode cX10_leastMeasure 52 = .ok (.aload_n 0, 1) := by decide +kernel
theorem dX10_leastMeasure_53 : decode cX10_leastMeasure 53 = .ok (.getfield 27, 3) := by decide +kernel
theorem dX10_leastMeasure_56 : decode cX10_leastMeasure 56 = .ok (.iload_n 1, 1) := by decide +kernel
theorem dX10_leastMeasure_57 : decode cX10_leastMeasure 57 = .ok (.iload_n 2, 1) := by decide +kernel
theorem dX10_leastMeasure_58 : decode cX10_leastMeasure 58 = .ok (.invokevirtual 226, 3) := by decide +kernel
theorem dX10_leastMeasure_61 : decode cX10_leastMeasure 61 = .ok (.iload 6, 2) := by decide +kernel
theorem dX10_leastMeasure_63 : decode cX10_leastMeasure 63 = .ok (.invokevirtual 229, 3) := by decide +kernel
theorem dX10_leastMeasure_66 : decode cX10_leastMeasure 66 = .ok (.ireturn, 1) := by decide +kernel
set_option maxRecDepth 20000 in
theorem ggX10_stands_X10_hasRun : GoodIn wsX10_stands wsX10_hasRun := goodIn_r _ [9, 3, 10, 11, 12, 13, 14, 15, 16, 17, 18, 19, 8, 20, 4, 21, 22, 23, 24, 78, 79, 80, 81, 82, 83, 84, 85, 86, 87, 88, 89, 90, 91, 92, 93, 94, 95, 96, 97, 98, 99, 100, 101, 102, 103, 104, 105] (by decide +kernel) (by decide +kernel)
set_option maxRecDepth 20000 in
theorem gX10_stands_X10_hasRun : GoodIn wsX10_stands (wsV RX10 148 RX10 yX10_hasRun wsX10_hasRun) := goodIn_app (goodIn_of _ (by decide +kernel)) ggX10_stands_X10_hasRun
theorem dX10_stands_0 : decode cX10_stands 0 = .ok (.aload_n 0, 1) := by decide +kernel
theorem dX10_stands_1 : decode cX10_stands 1 = .ok (.iload_n 1, 1) := by decide +kernel
theorem dX10_stands_2 : decode cX10_stands 2 = .ok (.iload_n 2, 1) := by decide +kernel
theorem dX10_stands_3 : decode cX10_stands 3 = .ok (.iload_n 3, 1) := by decide +kernel
theorem dX10_stands_4 : decode cX10_stands 4 = .ok (.invokevirtual 148, 3) := by decide +kernel
theorem dX10_stands_7 : decode cX10_stands 7 = .ok (.ifCond .eq 13, 3) := by decide +kernel
theorem dX10_stands_10 : decode cX10_stands 10 = .ok (.iload 4, 2) := by decide +kernel
theorem dX10_stands_12 : decode cX10_stands 12 = .ok (.iconst 0, 1) := by decide +kernel
theorem dX10_stands_13 : decode cX10_stands 13 = .ok (.iconst 2, 1) := by decide +kernel
theorem dX10_stands_14 : decode cX10_stands 14 = .ok (.invokestatic 176, 3) := by decide +kernel
theorem dX10_stands_17 : decode cX10_stands 17 = .ok (.ifCond .ne 6, 3) := by decide +kernel
theorem dX10_stands_20 : decode cX10_stands 20 = .ok (.bipush (-2), 2) := by decide +kernel
theorem dX10_stands_22 : decode cX10_stands 22 = .ok (.ireturn, 1) := by decide +kernel
theorem dX10_stands_23 : decode cX10_stands 23 = .ok (.aload_n 0, 1) := by decide +kernel
theorem dX10_stands_24 : decode cX10_stands 24 = .ok (.getfield 71, 3) := by decide +kernel
theorem dX10_stands_27 : decode cX10_stands 27 = .ok (.aload_n 0, 1) := by decide +kernel
theorem dX10_stands_28 : decode cX10_stands 28 = .ok (.getfield 55, 3) := by decide +kernel
theorem dX10_stands_31 : decode cX10_stands 31 = .ok (.iload_n 1, 1) := by decide +kernel
theorem dX10_stands_32 : decode cX10_stands 32 = .ok (.iload_n 2, 1) := by decide +kernel
theorem dX10_stands_33 : decode cX10_stands 33 = .ok (.iload_n 3, 1) := by decide +kernel
theorem dX10_stands_34 : decode cX10_stands 34 = .ok (.iconst 1, 1) := by decide +kernel
theorem dX10_stands_35 : decode cX10_stands 35 = .ok (.aload_n 0, 1) := by decide +kernel
theorem dX10_stands_36 : decode cX10_stands 36 = .ok (.getfield 27, 3) := by decide +kernel
theorem dX10_stands_39 : decode cX10_stands 39 = .ok (.getfield 128, 3) := by decide +kernel
theorem dX10_stands_42 : decode cX10_stands 42 = .ok (.invokevirtual 222, 3) := by decide +kernel
theorem dX10_stands_45 : decode cX10_stands 45 = .ok (.iconst (-1), 1) := by decide +kernel
theorem dX10_stands_46 : decode cX10_stands 46 = .ok (.istore 5, 2) := by decide +kernel
theorem dX10_stands_48 : decode cX10_stands 48 = .ok (.iconst (-1), 1) := by decide +kernel
theorem dX10_stands_49 : decode cX10_stands 49 = .ok (.istore 6, 2) := by decide +kernel
theorem dX10_stands_51 : decode cX10_stands 51 = .ok (.iconst 0, 1) := by decide +kernel
theorem dX10_stands_52 : decode cX10_stands 52 = .ok (.istore 7, 2) := by decide +kernel
theorem dX10_stands_54 : decode cX10_stands 54 = .ok (.iload_n 2, 1) := by decide +kernel
theorem dX10_stands_55 : decode cX10_stands 55 = .ok (.istore 8, 2) := by decide +kernel
theorem dX10_stands_57 : decode cX10_stands 57 = .ok (.iload 8, 2) := by decide +kernel
theorem dX10_stands_59 : decode cX10_stands 59 = .ok (.aload_n 0, 1) := by decide +kernel
theorem dX10_stands_60 : decode cX10_stands 60 = .ok (.getfield 27, 3) := by decide +kernel
theorem dX10_stands_63 : decode cX10_stands 63 = .ok (.getfield 128, 3) := by decide +kernel
theorem dX10_stands_66 : decode cX10_stands 66 = .ok (.if_icmp .gt 46, 3) := by decide +kernel
theorem dX10_stands_69 : decode cX10_stands 69 = .ok (.aload_n 0, 1) := by decide +kernel
theorem dX10_stands_70 : decode cX10_stands 70 = .ok (.getfield 71, 3) := by decide +kernel
theorem dX10_stands_73 : decode cX10_stands 73 = .ok (.iload 8, 2) := by decide +kernel
theorem dX10_stands_75 : decode cX10_stands 75 = .ok (.iload 8, 2) := by decide +kernel
theorem dX10_stands_77 : decode cX10_stands 77 = .ok (.invokevirtual 229, 3) := by decide +kernel
theorem dX10_stands_80 : decode cX10_stands 80 = .ok (.iconst (-1), 1) := by decide +kernel
theorem dX10_stands_81 : decode cX10_stands 81 = .ok (.if_icmp .eq 25, 3) := by decide +kernel
theorem dX10_stands_84 : decode cX10_stands 84 = .ok (.iload 5, 2) := by decide +kernel
theorem dX10_stands_86 : decode cX10_stands 86 = .ok (.iconst (-1), 1) := by decide +kernel
theorem dX10_stands_87 : decode cX10_stands 87 = .ok (.if_icmp .ne 8, 3) := by decide +kernel
theorem dX10_stands_90 : decode cX10_stands 90 = .ok (.iload 8, 2) := by decide +kernel
theorem dX10_stands_92 : decode cX10_stands 92 = .ok (.goto 5, 3) := by decide +kernel
theorem dX10_stands_95 : decode cX10_stands 95 = .ok (.iload 5, 2) := by decide +kernel
theorem dX10_stands_97 : decode cX10_stands 97 = .ok (.istore 5, 2) := by decide +kernel
theorem dX10_stands_99 : decode cX10_stands 99 = .ok (.iload 8, 2) := by decide +kernel
theorem dX10_stands_101 : decode cX10_stands 101 = .ok (.istore 6, 2) := by decide +kernel
theorem dX10_stands_103 : decode cX10_stands 103 = .ok (.iinc 7 1, 3) := by decide +kernel
theorem dX10_stands_106 : decode cX10_stands 106 = .ok (.iinc 8 1, 3) := by decide +kernel
theorem dX10_stands_109 : decode cX10_stands 109 = .ok (.goto (-52), 3) := by decide +kernel
theorem dX10_stands_112 : decode cX10_stands 112 = .ok (.iload 5, 2) := by decide +kernel
theorem dX10_stands_114 : decode cX10_stands 114 = .ok (.iload 6, 2) := by decide +kernel
theorem dX10_stands_116 : decode cX10_stands 116 = .ok (.iload 7, 2) := by decide +kernel
theorem dX10_stands_118 : decode cX10_stands 118 = .ok (.iload 4, 2) := by decide +kernel
theorem dX10_stands_120 : decode cX10_stands 120 = .ok (.invokestatic 232, 3) := by decide +kernel
theorem dX10_stands_123 : decode cX10_stands 123 = .ok (.ireturn, 1) := by decide +kernel
set_option maxRecDepth 20000 in
theorem ggX10_posts_X10_takesAim : GoodIn wsX10_posts wsX10_takesAim := goodIn_r _ [8, 3, 9, 10, 11, 7, 12, 1, 13, 14, 15, 16, 17, 18, 19, 20, 21, 22, 23, 24, 25, 26, 27, 28, 2, 29, 30, 31, 32, 33, 34, 35, 36, 37, 38, 39, 40, 41, 42, 43, 44, 45, 46, 47, 48, 49, 50, 51, 52, 53, 54, 55, 56, 57, 58, 59, 60, 61, 62, 63, 64, 65, 66, 67, 68, 69, 70, 71, 72, 73, 74, 75, 76, 77, 78, 79, 80, 81, 82, 83, 84, 85, 86, 87, 96, 97, 98, 99, 100, 101, 102, 103, 104, 105, 106, 107, 108, 109, 110, 111, 112, 113, 114, 115, 116, 117, 118, 119, 120, 121, 122, 123, 124, 125, 126, 127, 128, 129, 130, 131, 132, 133, 134, 135, 136] (by decide +kernel) (by decide +kernel)
set_option maxRecDepth 20000 in
theorem gX10_posts_X10_takesAim : GoodIn wsX10_posts (wsV RX10 200 RX10 yX10_takesAim wsX10_takesAim) := goodIn_app (goodIn_of _ (by decide +kernel)) ggX10_posts_X10_takesAim
theorem dX10_posts_0 : decode cX10_posts 0 = .ok (.aload_n 0, 1) := by decide +kernel
theorem dX10_posts_1 : decode cX10_posts 1 = .ok (.iload_n 1, 1) := by decide +kernel
theorem dX10_posts_2 : decode cX10_posts 2 = .ok (.iload_n 2, 1) := by decide +kernel
theorem dX10_posts_3 : decode cX10_posts 3 = .ok (.iconst 0, 1) := by decide +kernel
theorem dX10_posts_4 : decode cX10_posts 4 = .ok (.iload_n 3, 1) := by decide +kernel
theorem dX10_posts_5 : decode cX10_posts 5 = .ok (.invokevirtual 200, 3) := by decide +kernel
theorem dX10_posts_8 : decode cX10_posts 8 = .ok (.ifCond .eq 13, 3) := by decide +kernel
theorem dX10_posts_11 : decode cX10_posts 11 = .ok (.iload 4, 2) := by decide +kernel
theorem dX10_posts_13 : decode cX10_posts 13 = .ok (.iconst 0, 1) := by decide +kernel
theorem dX10_posts_14 : decode cX10_posts 14 = .ok (.iconst 2, 1) := by decide +kernel
theorem dX10_posts_15 : decode cX10_posts 15 = .ok (.invokestatic 176, 3) := by decide +kernel
theorem dX10_posts_18 : decode cX10_posts 18 = .ok (.ifCond .ne 6, 3) := by decide +kernel
theorem dX10_posts_21 : decode cX10_posts 21 = .ok (.bipush (-2), 2) := by decide +kernel
theorem dX10_posts_23 : decode cX10_posts 23 = .ok (.ireturn, 1) := by decide +kernel
theorem dX10_posts_24 : decode cX10_posts 24 = .ok (.iconst (-1), 1) := by decide +kernel
theorem dX10_posts_25 : decode cX10_posts 25 = .ok (.istore 5, 2) := by decide +kernel
theorem dX10_posts_27 : decode cX10_posts 27 = .ok (.iconst (-1), 1) := by decide +kernel
theorem dX10_posts_28 : decode cX10_posts 28 = .ok (.istore 6, 2) := by decide +kernel
theorem dX10_posts_30 : decode cX10_posts 30 = .ok (.iconst 0, 1) := by decide +kernel
theorem dX10_posts_31 : decode cX10_posts 31 = .ok (.istore 7, 2) := by decide +kernel
theorem dX10_posts_33 : decode cX10_posts 33 = .ok (.iconst 0, 1) := by decide +kernel
theorem dX10_posts_34 : decode cX10_posts 34 = .ok (.istore 8, 2) := by decide +kernel
theorem dX10_posts_36 : decode cX10_posts 36 = .ok (.iload 8, 2) := by decide +kernel
theorem dX10_posts_38 : decode cX10_posts 38 = .ok (.aload_n 0, 1) := by decide +kernel
theorem dX10_posts_39 : decode cX10_posts 39 = .ok (.getfield 27, 3) := by decide +kernel
theorem dX10_posts_42 : decode cX10_posts 42 = .ok (.getfield 128, 3) := by decide +kernel
theorem dX10_posts_45 : decode cX10_posts 45 = .ok (.if_icmp .gt 47, 3) := by decide +kernel
theorem dX10_posts_48 : decode cX10_posts 48 = .ok (.aload_n 0, 1) := by decide +kernel
theorem dX10_posts_49 : decode cX10_posts 49 = .ok (.getfield 64, 3) := by decide +kernel
theorem dX10_posts_52 : decode cX10_posts 52 = .ok (.iload_n 1, 1) := by decide +kernel
theorem dX10_posts_53 : decode cX10_posts 53 = .ok (.iload_n 2, 1) := by decide +kernel
theorem dX10_posts_54 : decode cX10_posts 54 = .ok (.iload 8, 2) := by decide +kernel
theorem dX10_posts_56 : decode cX10_posts 56 = .ok (.iload_n 3, 1) := by decide +kernel
theorem dX10_posts_57 : decode cX10_posts 57 = .ok (.invokevirtual 203, 3) := by decide +kernel
theorem dX10_posts_60 : decode cX10_posts 60 = .ok (.iconst (-1), 1) := by decide +kernel
theorem dX10_posts_61 : decode cX10_posts 61 = .ok (.if_icmp .eq 25, 3) := by decide +kernel
theorem dX10_posts_64 : decode cX10_posts 64 = .ok (.iload 5, 2) := by decide +kernel
theorem dX10_posts_66 : decode cX10_posts 66 = .ok (.iconst (-1), 1) := by decide +kernel
theorem dX10_posts_67 : decode cX10_posts 67 = .ok (.if_icmp .ne 8, 3) := by decide +kernel
theorem dX10_posts_70 : decode cX10_posts 70 = .ok (.iload 8, 2) := by decide +kernel
theorem dX10_posts_72 : decode cX10_posts 72 = .ok (.goto 5, 3) := by decide +kernel
theorem dX10_posts_75 : decode cX10_posts 75 = .ok (.iload 5, 2) := by decide +kernel
theorem dX10_posts_77 : decode cX10_posts 77 = .ok (.istore 5, 2) := by decide +kernel
theorem dX10_posts_79 : decode cX10_posts 79 = .ok (.iload 8, 2) := by decide +kernel
theorem dX10_posts_81 : decode cX10_posts 81 = .ok (.istore 6, 2) := by decide +kernel
theorem dX10_posts_83 : decode cX10_posts 83 = .ok (.iinc 7 1, 3) := by decide +kernel
theorem dX10_posts_86 : decode cX10_posts 86 = .ok (.iinc 8 1, 3) := by decide +kernel
theorem dX10_posts_89 : decode cX10_posts 89 = .ok (.goto (-53), 3) := by decide +kernel
theorem dX10_posts_92 : decode cX10_posts 92 = .ok (.iload 5, 2) := by decide +kernel
theorem dX10_posts_94 : decode cX10_posts 94 = .ok (.iload 6, 2) := by decide +kernel
theorem dX10_posts_96 : decode cX10_posts 96 = .ok (.iload 7, 2) := by decide +kernel
theorem dX10_posts_98 : decode cX10_posts 98 = .ok (.iload 4, 2) := by decide +kernel
theorem dX10_posts_100 : decode cX10_posts 100 = .ok (.invokestatic 232, 3) := by decide +kernel
theorem dX10_posts_103 : decode cX10_posts 103 = .ok (.ireturn, 1) := by decide +kernel
set_option maxRecDepth 20000 in
theorem ggX10_speeds_X10_takesAim : GoodIn wsX10_speeds wsX10_takesAim := goodIn_r _ [6, 1, 7, 8, 9, 5, 10, 11, 12, 13, 14, 15, 16, 17, 18, 19, 20, 21, 22, 23, 24, 25, 26, 27, 28, 29, 30, 31, 32, 33, 34, 35, 36, 37, 38, 39, 40, 41, 42, 43, 44, 45, 46, 47, 48, 49, 50, 51, 52, 53, 54, 55, 56, 57, 58, 59, 60, 61, 62, 63, 64, 65, 66, 67, 68, 69, 70, 71, 72, 73, 74, 75, 76, 77, 78, 79, 80, 81, 82, 83, 84, 85, 86, 87, 92, 93, 94, 95, 96, 97, 98, 99, 100, 101, 102, 103, 104, 105, 106, 107, 108, 109, 110, 111, 112, 113, 114, 115, 116, 117, 118, 119, 120, 121, 122, 123, 124, 125, 126, 127, 128, 129, 130, 131, 132] (by decide +kernel) (by decide +kernel)
set_option maxRecDepth 20000 in
theorem gX10_speeds_X10_takesAim : GoodIn wsX10_speeds (wsV RX10 200 RX10 yX10_takesAim wsX10_takesAim) := goodIn_app (goodIn_of _ (by decide +kernel)) ggX10_speeds_X10_takesAim
theorem dX10_speeds_0 : decode cX10_speeds 0 = .ok (.aload_n 0, 1) := by decide +kernel
theorem dX10_speeds_1 : decode cX10_speeds 1 = .ok (.iload_n 1, 1) := by decide +kernel
theorem dX10_speeds_2 : decode cX10_speeds 2 = .ok (.iload_n 2, 1) := by decide +kernel
theorem dX10_speeds_3 : decode cX10_speeds 3 = .ok (.iload_n 3, 1) := by decide +kernel
theorem dX10_speeds_4 : decode cX10_speeds 4 = .ok (.iconst 1, 1) := by decide +kernel
theorem dX10_speeds_5 : decode cX10_speeds 5 = .ok (.invokevirtual 200, 3) := by decide +kernel
theorem dX10_speeds_8 : decode cX10_speeds 8 = .ok (.ifCond .ne 6, 3) := by decide +kernel
theorem dX10_speeds_11 : decode cX10_speeds 11 = .ok (.bipush (-2), 2) := by decide +kernel
theorem dX10_speeds_13 : decode cX10_speeds 13 = .ok (.ireturn, 1) := by decide +kernel
theorem dX10_speeds_14 : decode cX10_speeds 14 = .ok (.iconst 0, 1) := by decide +kernel
theorem dX10_speeds_15 : decode cX10_speeds 15 = .ok (.istore 4, 2) := by decide +kernel
theorem dX10_speeds_17 : decode cX10_speeds 17 = .ok (.iconst 1, 1) := by decide +kernel
theorem dX10_speeds_18 : decode cX10_speeds 18 = .ok (.istore 5, 2) := by decide +kernel
theorem dX10_speeds_20 : decode cX10_speeds 20 = .ok (.iload 5, 2) := by decide +kernel
theorem dX10_speeds_22 : decode cX10_speeds 22 = .ok (.bipush 15, 2) := by decide +kernel
theorem dX10_speeds_24 : decode cX10_speeds 24 = .ok (.if_icmp .gt 34, 3) := by decide +kernel
theorem dX10_speeds_27 : decode cX10_speeds 27 = .ok (.aload_n 0, 1) := by decide +kernel
theorem dX10_speeds_28 : decode cX10_speeds 28 = .ok (.getfield 64, 3) := by decide +kernel
theorem dX10_speeds_31 : decode cX10_speeds 31 = .ok (.iload_n 1, 1) := by decide +kernel
theorem dX10_speeds_32 : decode cX10_speeds 32 = .ok (.iload_n 2, 1) := by decide +kernel
theorem dX10_speeds_33 : decode cX10_speeds 33 = .ok (.iload_n 3, 1) := by decide +kernel
theorem dX10_speeds_34 : decode cX10_speeds 34 = .ok (.iload 5, 2) := by decide +kernel
theorem dX10_speeds_36 : decode cX10_speeds 36 = .ok (.invokevirtual 203, 3) := by decide +kernel
theorem dX10_speeds_39 : decode cX10_speeds 39 = .ok (.iconst (-1), 1) := by decide +kernel
theorem dX10_speeds_40 : decode cX10_speeds 40 = .ok (.if_icmp .eq 12, 3) := by decide +kernel
theorem dX10_speeds_43 : decode cX10_speeds 43 = .ok (.iload 4, 2) := by decide +kernel
theorem dX10_speeds_45 : decode cX10_speeds 45 = .ok (.iconst 1, 1) := by decide +kernel
theorem dX10_speeds_46 : decode cX10_speeds 46 = .ok (.iload 5, 2) := by decide +kernel
theorem dX10_speeds_48 : decode cX10_speeds 48 = .ok (.ishl, 1) := by decide +kernel
theorem dX10_speeds_49 : decode cX10_speeds 49 = .ok (.ior, 1) := by decide +kernel
theorem dX10_speeds_50 : decode cX10_speeds 50 = .ok (.istore 4, 2) := by decide +kernel
theorem dX10_speeds_52 : decode cX10_speeds 52 = .ok (.iinc 5 1, 3) := by decide +kernel
theorem dX10_speeds_55 : decode cX10_speeds 55 = .ok (.goto (-35), 3) := by decide +kernel
theorem dX10_speeds_58 : decode cX10_speeds 58 = .ok (.iload 4, 2) := by decide +kernel
theorem dX10_speeds_60 : decode cX10_speeds 60 = .ok (.ireturn, 1) := by decide +kernel
set_option maxRecDepth 20000 in
theorem ggX10_wetter_X10_hasAim : GoodIn wsX10_wetter wsX10_hasAim := goodIn_r _ [7, 8, 9, 10, 11, 12, 6, 13, 14, 15, 16, 17, 18, 19, 20, 21, 22, 23, 24, 25, 26, 27, 28, 29, 122, 123, 124, 125, 126, 127, 128, 129, 130, 131, 132, 133, 134, 135, 136, 143, 144, 145, 146, 147, 148, 149, 150, 151, 152, 153, 154, 155] (by decide +kernel) (by decide +kernel)
set_option maxRecDepth 20000 in
theorem gX10_wetter_X10_hasAim : GoodIn wsX10_wetter (wsV RX10 155 RX10 yX10_hasAim wsX10_hasAim) := goodIn_app (goodIn_of _ (by decide +kernel)) ggX10_wetter_X10_hasAim
theorem dX10_wetter_0 : decode cX10_wetter 0 = .ok (.aload_n 0, 1) := by decide +kernel
theorem dX10_wetter_1 : decode cX10_wetter 1 = .ok (.iload_n 1, 1) := by decide +kernel
theorem dX10_wetter_2 : decode cX10_wetter 2 = .ok (.iload_n 2, 1) := by decide +kernel
theorem dX10_wetter_3 : decode cX10_wetter 3 = .ok (.iload_n 3, 1) := by decide +kernel
theorem dX10_wetter_4 : decode cX10_wetter 4 = .ok (.iload 4, 2) := by decide +kernel
theorem dX10_wetter_6 : decode cX10_wetter 6 = .ok (.invokevirtual 155, 3) := by decide +kernel
theorem dX10_wetter_9 : decode cX10_wetter 9 = .ok (.ifCond .ne 6, 3) := by decide +kernel
theorem dX10_wetter_12 : decode cX10_wetter 12 = .ok (.bipush (-2), 2) := by decide +kernel
theorem dX10_wetter_14 : decode cX10_wetter 14 = .ok (.ireturn, 1) := by decide +kernel
theorem dX10_wetter_15 : decode cX10_wetter 15 = .ok (.aload_n 0, 1) := by decide +kernel
theorem dX10_wetter_16 : decode cX10_wetter 16 = .ok (.getfield 55, 3) := by decide +kernel
theorem dX10_wetter_19 : decode cX10_wetter 19 = .ok (.getfield 183, 3) := by decide +kernel
theorem dX10_wetter_22 : decode cX10_wetter 22 = .ok (.istore 5, 2) := by decide +kernel
theorem dX10_wetter_24 : decode cX10_wetter 24 = .ok (.iconst (-1), 1) := by decide +kernel
theorem dX10_wetter_25 : decode cX10_wetter 25 = .ok (.istore 6, 2) := by decide +kernel
theorem dX10_wetter_27 : decode cX10_wetter 27 = .ok (.iconst 0, 1) := by decide +kernel
theorem dX10_wetter_28 : decode cX10_wetter 28 = .ok (.istore 7, 2) := by decide +kernel
theorem dX10_wetter_30 : decode cX10_wetter 30 = .ok (.iload 7, 2) := by decide +kernel
theorem dX10_wetter_32 : decode cX10_wetter 32 = .ok (.bipush 100, 2) := by decide +kernel
theorem dX10_wetter_34 : decode cX10_wetter 34 = .ok (.if_icmp .gt 58, 3) := by decide +kernel
theorem dX10_wetter_37 : decode cX10_wetter 37 = .ok (.iload 7, 2) := by decide +kernel
theorem dX10_wetter_39 : decode cX10_wetter 39 = .ok (.ifCond .eq 16, 3) := by decide +kernel
theorem dX10_wetter_42 : decode cX10_wetter 42 = .ok (.aload_n 0, 1) := by decide +kernel
theorem dX10_wetter_43 : decode cX10_wetter 43 = .ok (.getfield 55, 3) := by decide +kernel
theorem dX10_wetter_46 : decode cX10_wetter 46 = .ok (.iload_n 1, 1) := by decide +kernel
theorem dX10_wetter_47 : decode cX10_wetter 47 = .ok (.iload 7, 2) := by decide +kernel
theorem dX10_wetter_49 : decode cX10_wetter 49 = .ok (.invokevirtual 235, 3) := by decide +kernel
theorem dX10_wetter_52 : decode cX10_wetter 52 = .ok (.ifCond .eq 30, 3) := by decide +kernel
theorem dX10_wetter_55 : decode cX10_wetter 55 = .ok (.aload_n 0, 1) := by decide +kernel
theorem dX10_wetter_56 : decode cX10_wetter 56 = .ok (.getfield 55, 3) := by decide +kernel
theorem dX10_wetter_59 : decode cX10_wetter 59 = .ok (.iload_n 1, 1) := by decide +kernel
theorem dX10_wetter_60 : decode cX10_wetter 60 = .ok (.iload 7, 2) := by decide +kernel
theorem dX10_wetter_62 : decode cX10_wetter 62 = .ok (.invokevirtual 239, 3) := by decide +kernel
theorem dX10_wetter_65 : decode cX10_wetter 65 = .ok (.aload_n 0, 1) := by decide +kernel
theorem dX10_wetter_66 : decode cX10_wetter 66 = .ok (.iload_n 1, 1) := by decide +kernel
theorem dX10_wetter_67 : decode cX10_wetter 67 = .ok (.iload_n 2, 1) := by decide +kernel
theorem dX10_wetter_68 : decode cX10_wetter 68 = .ok (.iload_n 3, 1) := by decide +kernel
theorem dX10_wetter_69 : decode cX10_wetter 69 = .ok (.iload 4, 2) := by decide +kernel
theorem dX10_wetter_71 : decode cX10_wetter 71 = .ok (.iconst 1, 1) := by decide +kernel
theorem dX10_wetter_72 : decode cX10_wetter 72 = .ok (.invokevirtual 218, 3) := by decide +kernel
theorem dX10_wetter_75 : decode cX10_wetter 75 = .ok (.iconst (-1), 1) := by decide +kernel
theorem dX10_wetter_76 : decode cX10_wetter 76 = .ok (.if_icmp .ne 6, 3) := by decide +kernel
theorem dX10_wetter_79 : decode cX10_wetter 79 = .ok (.goto 13, 3) := by decide +kernel
theorem dX10_wetter_82 : decode cX10_wetter 82 = .ok (.iload 7, 2) := by decide +kernel
theorem dX10_wetter_84 : decode cX10_wetter 84 = .ok (.istore 6, 2) := by decide +kernel
theorem dX10_wetter_86 : decode cX10_wetter 86 = .ok (.iinc 7 1, 3) := by decide +kernel
theorem dX10_wetter_89 : decode cX10_wetter 89 = .ok (.goto (-59), 3) := by decide +kernel
theorem dX10_wetter_92 : decode cX10_wetter 92 = .ok (.aload_n 0, 1) := by decide +kernel
theorem dX10_wetter_93 : decode cX10_wetter 93 = .ok (.getfield 55, 3) := by decide +kernel
theorem dX10_wetter_96 : decode cX10_wetter 96 = .ok (.iload_n 1, 1) := by decide +kernel
theorem dX10_wetter_97 : decode cX10_wetter 97 = .ok (.iload 5, 2) := by decide +kernel
theorem dX10_wetter_99 : decode cX10_wetter 99 = .ok (.invokevirtual 239, 3) := by decide +kernel
theorem dX10_wetter_102 : decode cX10_wetter 102 = .ok (.iload 6, 2) := by decide +kernel
theorem dX10_wetter_104 : decode cX10_wetter 104 = .ok (.ireturn, 1) := by decide +kernel
set_option maxRecDepth 20000 in
theorem ggX10_room_X6_has : GoodIn wsX10_room wsX6_has := goodIn_r _ [9, 10, 50, 51, 52, 53] (by decide +kernel) (by decide +kernel)
set_option maxRecDepth 20000 in
theorem gX10_room_X6_has : GoodIn wsX10_room (wsV RX10 139 RX6 yX6_has wsX6_has) := goodIn_app (goodIn_of _ (by decide +kernel)) ggX10_room_X6_has
theorem dX10_room_0 : decode cX10_room 0 = .ok (.aload_n 0, 1) := by decide +kernel
theorem dX10_room_1 : decode cX10_room 1 = .ok (.getfield 27, 3) := by decide +kernel
theorem dX10_room_4 : decode cX10_room 4 = .ok (.getfield 135, 3) := by decide +kernel
theorem dX10_room_7 : decode cX10_room 7 = .ok (.iload_n 1, 1) := by decide +kernel
theorem dX10_room_8 : decode cX10_room 8 = .ok (.invokevirtual 139, 3) := by decide +kernel
theorem dX10_room_11 : decode cX10_room 11 = .ok (.ifCond .eq 17, 3) := by decide +kernel
theorem dX10_room_14 : decode cX10_room 14 = .ok (.aload_n 0, 1) := by decide +kernel
theorem dX10_room_15 : decode cX10_room 15 = .ok (.getfield 27, 3) := by decide +kernel
theorem dX10_room_18 : decode cX10_room 18 = .ok (.getfield 152, 3) := by decide +kernel
theorem dX10_room_21 : decode cX10_room 21 = .ok (.iload_n 2, 1) := by decide +kernel
theorem dX10_room_22 : decode cX10_room 22 = .ok (.invokevirtual 139, 3) := by decide +kernel
theorem dX10_room_25 : decode cX10_room 25 = .ok (.ifCond .ne 6, 3) := by decide +kernel
theorem dX10_room_28 : decode cX10_room 28 = .ok (.ldc 242, 2) := by decide +kernel
theorem dX10_room_30 : decode cX10_room 30 = .ok (.ireturn, 1) := by decide +kernel
theorem dX10_room_31 : decode cX10_room 31 = .ok (.aload_n 0, 1) := by decide +kernel
theorem dX10_room_32 : decode cX10_room 32 = .ok (.getfield 27, 3) := by decide +kernel
theorem dX10_room_35 : decode cX10_room 35 = .ok (.getfield 152, 3) := by decide +kernel
theorem dX10_room_38 : decode cX10_room 38 = .ok (.iload_n 2, 1) := by decide +kernel
theorem dX10_room_39 : decode cX10_room 39 = .ok (.iconst 1, 1) := by decide +kernel
theorem dX10_room_40 : decode cX10_room 40 = .ok (.invokevirtual 179, 3) := by decide +kernel
theorem dX10_room_43 : decode cX10_room 43 = .ok (.aload_n 0, 1) := by decide +kernel
theorem dX10_room_44 : decode cX10_room 44 = .ok (.getfield 27, 3) := by decide +kernel
theorem dX10_room_47 : decode cX10_room 47 = .ok (.iload_n 1, 1) := by decide +kernel
theorem dX10_room_48 : decode cX10_room 48 = .ok (.iload_n 2, 1) := by decide +kernel
theorem dX10_room_49 : decode cX10_room 49 = .ok (.invokevirtual 226, 3) := by decide +kernel
theorem dX10_room_52 : decode cX10_room 52 = .ok (.isub, 1) := by decide +kernel
theorem dX10_room_53 : decode cX10_room 53 = .ok (.ireturn, 1) := by decide +kernel
set_option maxRecDepth 20000 in
theorem ggX10_told_X10_isAmong : GoodIn wsX10_told wsX10_isAmong := goodIn_r _ [9] (by decide +kernel) (by decide +kernel)
set_option maxRecDepth 20000 in
theorem gX10_told_X10_isAmong : GoodIn wsX10_told (va_wsS RX10 176 yX10_isAmong wsX10_isAmong) := goodIn_app (goodIn_of _ (by decide +kernel)) ggX10_told_X10_isAmong
set_option maxRecDepth 20000 in
theorem ggX10_told_X10_hasRun : GoodIn wsX10_told wsX10_hasRun := goodIn_r _ [13, 2, 14, 15, 16, 17, 18, 19, 20, 21, 22, 23, 8, 24, 3, 25, 26, 27, 28, 57, 58, 59, 60, 61, 62, 63, 64, 65, 66, 67, 68, 69, 70, 71, 72, 73, 74, 75, 76, 77, 78, 79, 80, 84, 85, 86, 87] (by decide +kernel) (by decide +kernel)
set_option maxRecDepth 20000 in
theorem gX10_told_X10_hasRun : GoodIn wsX10_told (wsV RX10 148 RX10 yX10_hasRun wsX10_hasRun) := goodIn_app (goodIn_of _ (by decide +kernel)) ggX10_told_X10_hasRun
theorem dX10_told_0 : decode cX10_told 0 = .ok (.iload_n 1, 1) := by decide +kernel
theorem dX10_told_1 : decode cX10_told 1 = .ok (.iconst 0, 1) := by decide +kernel
theorem dX10_told_2 : decode cX10_told 2 = .ok (.iconst 3, 1) := by decide +kernel
theorem dX10_told_3 : decode cX10_told 3 = .ok (.invokestatic 176, 3) := by decide +kernel
theorem dX10_told_6 : decode cX10_told 6 = .ok (.ifCond .eq 14, 3) := by decide +kernel
theorem dX10_told_9 : decode cX10_told 9 = .ok (.aload_n 0, 1) := by decide +kernel
theorem dX10_told_10 : decode cX10_told 10 = .ok (.iload_n 2, 1) := by decide +kernel
theorem dX10_told_11 : decode cX10_told 11 = .ok (.iload_n 3, 1) := by decide +kernel
theorem dX10_told_12 : decode cX10_told 12 = .ok (.iload 4, 2) := by decide +kernel
theorem dX10_told_14 : decode cX10_told 14 = .ok (.invokevirtual 148, 3) := by decide +kernel
theorem dX10_told_17 : decode cX10_told 17 = .ok (.ifCond .ne 6, 3) := by decide +kernel
theorem dX10_told_20 : decode cX10_told 20 = .ok (.bipush (-2), 2) := by decide +kernel
theorem dX10_told_22 : decode cX10_told 22 = .ok (.ireturn, 1) := by decide +kernel
theorem dX10_told_23 : decode cX10_told 23 = .ok (.aload_n 0, 1) := by decide +kernel
theorem dX10_told_24 : decode cX10_told 24 = .ok (.getfield 48, 3) := by decide +kernel
theorem dX10_told_27 : decode cX10_told 27 = .ok (.iload_n 1, 1) := by decide +kernel
theorem dX10_told_28 : decode cX10_told 28 = .ok (.aaload, 1) := by decide +kernel
theorem dX10_told_29 : decode cX10_told 29 = .ok (.invokestatic 243, 3) := by decide +kernel
theorem dX10_told_32 : decode cX10_told 32 = .ok (.istore 5, 2) := by decide +kernel
theorem dX10_told_34 : decode cX10_told 34 = .ok (.iload 5, 2) := by decide +kernel
theorem dX10_told_36 : decode cX10_told 36 = .ok (.ifCond .eq 6, 3) := by decide +kernel
theorem dX10_told_39 : decode cX10_told 39 = .ok (.iload 5, 2) := by decide +kernel
theorem dX10_told_41 : decode cX10_told 41 = .ok (.ireturn, 1) := by decide +kernel
theorem dX10_told_42 : decode cX10_told 42 = .ok (.iload_n 3, 1) := by decide +kernel
theorem dX10_told_43 : decode cX10_told 43 = .ok (.istore 6, 2) := by decide +kernel
theorem dX10_told_45 : decode cX10_told 45 = .ok (.iload 4, 2) := by decide +kernel
theorem dX10_told_47 : decode cX10_told 47 = .ok (.istore 7, 2) := by decide +kernel
theorem dX10_told_49 : decode cX10_told 49 = .ok (.iconst 0, 1) := by decide +kernel
theorem dX10_told_50 : decode cX10_told 50 = .ok (.istore 8, 2) := by decide +kernel
theorem dX10_told_52 : decode cX10_told 52 = .ok (.iload 8, 2) := by decide +kernel
theorem dX10_told_54 : decode cX10_told 54 = .ok (.sipush 404, 3) := by decide +kernel
theorem dX10_told_57 : decode cX10_told 57 = .ok (.if_icmp .ge 84, 3) := by decide +kernel
theorem dX10_told_60 : decode cX10_told 60 = .ok (.iload 6, 2) := by decide +kernel
theorem dX10_told_62 : decode cX10_told 62 = .ok (.aload_n 0, 1) := by decide +kernel
theorem dX10_told_63 : decode cX10_told 63 = .ok (.getfield 27, 3) := by decide +kernel
theorem dX10_told_66 : decode cX10_told 66 = .ok (.getfield 128, 3) := by decide +kernel
theorem dX10_told_69 : decode cX10_told 69 = .ok (.if_icmp .gt 72, 3) := by decide +kernel
theorem dX10_told_72 : decode cX10_told 72 = .ok (.iload 8, 2) := by decide +kernel
theorem dX10_told_74 : decode cX10_told 74 = .ok (.aload_n 0, 1) := by decide +kernel
theorem dX10_told_75 : decode cX10_told 75 = .ok (.getfield 48, 3) := by decide +kernel
theorem dX10_told_78 : decode cX10_told 78 = .ok (.iload_n 1, 1) := by decide +kernel
theorem dX10_told_79 : decode cX10_told 79 = .ok (.aaload, 1) := by decide +kernel
theorem dX10_told_80 : decode cX10_told 80 = .ok (.getfield 247, 3) := by decide +kernel
theorem dX10_told_83 : decode cX10_told 83 = .ok (.if_icmp .ge 18, 3) := by decide +kernel
theorem dX10_told_86 : decode cX10_told 86 = .ok (.aload_n 0, 1) := by decide +kernel
theorem dX10_told_87 : decode cX10_told 87 = .ok (.getfield 48, 3) := by decide +kernel
theorem dX10_told_90 : decode cX10_told 90 = .ok (.iload_n 1, 1) := by decide +kernel
theorem dX10_told_91 : decode cX10_told 91 = .ok (.aaload, 1) := by decide +kernel
theorem dX10_told_92 : decode cX10_told 92 = .ok (.iload 8, 2) := by decide +kernel
theorem dX10_told_94 : decode cX10_told 94 = .ok (.invokevirtual 250, 3) := by decide +kernel
theorem dX10_told_97 : decode cX10_told 97 = .ok (.l2i, 1) := by decide +kernel
theorem dX10_told_98 : decode cX10_told 98 = .ok (.goto 4, 3) := by decide +kernel
theorem dX10_told_101 : decode cX10_told 101 = .ok (.iconst 3, 1) := by decide +kernel
theorem dX10_told_102 : decode cX10_told 102 = .ok (.istore 9, 2) := by decide +kernel
theorem dX10_told_104 : decode cX10_told 104 = .ok (.aload_n 0, 1) := by decide +kernel
theorem dX10_told_105 : decode cX10_told 105 = .ok (.getfield 55, 3) := by decide +kernel
theorem dX10_told_108 : decode cX10_told 108 = .ok (.iload_n 2, 1) := by decide +kernel
theorem dX10_told_109 : decode cX10_told 109 = .ok (.iload 6, 2) := by decide +kernel
theorem dX10_told_111 : decode cX10_told 111 = .ok (.iload 7, 2) := by decide +kernel
theorem dX10_told_113 : decode cX10_told 113 = .ok (.iload 9, 2) := by decide +kernel
theorem dX10_told_115 : decode cX10_told 115 = .ok (.invokevirtual 196, 3) := by decide +kernel
theorem dX10_told_118 : decode cX10_told 118 = .ok (.istore 7, 2) := by decide +kernel
theorem dX10_told_120 : decode cX10_told 120 = .ok (.iload 7, 2) := by decide +kernel
theorem dX10_told_122 : decode cX10_told 122 = .ok (.ifCond .ne 6, 3) := by decide +kernel
theorem dX10_told_125 : decode cX10_told 125 = .ok (.iload 6, 2) := by decide +kernel
theorem dX10_told_127 : decode cX10_told 127 = .ok (.ireturn, 1) := by decide +kernel
theorem dX10_told_128 : decode cX10_told 128 = .ok (.iload 6, 2) := by decide +kernel
theorem dX10_told_130 : decode cX10_told 130 = .ok (.iload 7, 2) := by decide +kernel
theorem dX10_told_132 : decode cX10_told 132 = .ok (.iadd, 1) := by decide +kernel
theorem dX10_told_133 : decode cX10_told 133 = .ok (.istore 6, 2) := by decide +kernel
theorem dX10_told_135 : decode cX10_told 135 = .ok (.iinc 8 1, 3) := by decide +kernel
theorem dX10_told_138 : decode cX10_told 138 = .ok (.goto (-86), 3) := by decide +kernel
theorem dX10_told_141 : decode cX10_told 141 = .ok (.iconst (-1), 1) := by decide +kernel
theorem dX10_told_142 : decode cX10_told 142 = .ok (.ireturn, 1) := by decide +kernel
set_option maxRecDepth 20000 in
theorem ggX10_judge_X10_isAmong : GoodIn wsX10_judge wsX10_isAmong := goodIn_r _ [9] (by decide +kernel) (by decide +kernel)
set_option maxRecDepth 20000 in
theorem gX10_judge_X10_isAmong : GoodIn wsX10_judge (va_wsS RX10 176 yX10_isAmong wsX10_isAmong) := goodIn_app (goodIn_of _ (by decide +kernel)) ggX10_judge_X10_isAmong
set_option maxRecDepth 20000 in
theorem ggX10_judge_X10_takesAim : GoodIn wsX10_judge wsX10_takesAim := goodIn_r _ [13, 5, 14, 15, 16, 8, 17, 4, 18, 19, 20, 21, 22, 23, 24, 25, 26, 27, 28, 29, 30, 31, 32, 33, 34, 35, 36, 37, 38, 39, 40, 41, 42, 43, 44, 45, 46, 7, 9, 47, 48, 49, 50, 51, 52, 53, 54, 55, 56, 57, 58, 59, 60, 61, 62, 63, 64, 65, 66, 67, 68, 69, 70, 71, 72, 73, 74, 75, 76, 77, 78, 79, 80, 81, 82, 83, 84, 85, 86, 87, 88, 89, 90, 91, 122, 123, 124, 125, 126, 127, 128, 129, 130, 131, 132, 133, 134, 135, 136, 140, 141, 142, 143, 144, 145, 146, 147, 148, 149, 150, 151, 152, 153, 154, 155, 156, 157, 158, 159, 160, 161, 162, 163, 164, 165] (by decide +kernel) (by decide +kernel)
set_option maxRecDepth 20000 in
theorem gX10_judge_X10_takesAim : GoodIn wsX10_judge (wsV RX10 200 RX10 yX10_takesAim wsX10_takesAim) := goodIn_app (goodIn_of _ (by decide +kernel)) ggX10_judge_X10_takesAim
theorem dX10_judge_0 : decode cX10_judge 0 = .ok (.iload_n 1, 1) := by decide +kernel
theorem dX10_judge_1 : decode cX10_judge 1 = .ok (.iconst 0, 1) := by decide +kernel
theorem dX10_judge_2 : decode cX10_judge 2 = .ok (.iconst 3, 1) := by decide +kernel
theorem dX10_judge_3 : decode cX10_judge 3 = .ok (.invokestatic 176, 3) := by decide +kernel
theorem dX10_judge_6 : decode cX10_judge 6 = .ok (.ifCond .eq 16, 3) := by decide +kernel
theorem dX10_judge_9 : decode cX10_judge 9 = .ok (.aload_n 0, 1) := by decide +kernel
theorem dX10_judge_10 : decode cX10_judge 10 = .ok (.iload_n 2, 1) := by decide +kernel
theorem dX10_judge_11 : decode cX10_judge 11 = .ok (.iload_n 3, 1) := by decide +kernel
theorem dX10_judge_12 : decode cX10_judge 12 = .ok (.iload 4, 2) := by decide +kernel
theorem dX10_judge_14 : decode cX10_judge 14 = .ok (.iload 5, 2) := by decide +kernel
theorem dX10_judge_16 : decode cX10_judge 16 = .ok (.invokevirtual 200, 3) := by decide +kernel
theorem dX10_judge_19 : decode cX10_judge 19 = .ok (.ifCond .ne 6, 3) := by decide +kernel
theorem dX10_judge_22 : decode cX10_judge 22 = .ok (.bipush (-2), 2) := by decide +kernel
theorem dX10_judge_24 : decode cX10_judge 24 = .ok (.ireturn, 1) := by decide +kernel

theorem dX10_init_212 : decode cX10_init 212 = .ok (.aastore, 1) := by decide +kernel
theorem dX10_init_213 : decode cX10_init 213 = .ok (.iinc 1 1, 3) := by decide +kernel
theorem dX10_init_216 : decode cX10_init 216 = .ok (.goto (-21), 3) := by decide +kernel
theorem dX10_init_219 : decode cX10_init 219 = .ok (.aload_n 0, 1) := by decide +kernel
theorem dX10_init_220 : decode cX10_init 220 = .ok (.getfield 55, 3) := by decide +kernel
theorem dX10_init_223 : decode cX10_init 223 = .ok (.aload_n 0, 1) := by decide +kernel
theorem dX10_init_224 : decode cX10_init 224 = .ok (.getfield 27, 3) := by decide +kernel
theorem dX10_init_227 : decode cX10_init 227 = .ok (.iconst 0, 1) := by decide +kernel
theorem dX10_init_228 : decode cX10_init 228 = .ok (.invokevirtual 101, 3) := by decide +kernel
theorem dX10_init_231 : decode cX10_init 231 = .ok (.return_, 1) := by decide +kernel
theorem dX10_feed_0 : decode cX10_feed 0 = .ok (.aload_n 0, 1) := by decide +kernel
theorem dX10_feed_1 : decode cX10_feed 1 = .ok (.getfield 13, 3) := by decide +kernel
theorem dX10_feed_4 : decode cX10_feed 4 = .ok (.sipush 1580, 3) := by decide +kernel
theorem dX10_feed_7 : decode cX10_feed 7 = .ok (.if_icmp .le 5, 3) := by decide +kernel
theorem dX10_feed_12 : decode cX10_feed 12 = .ok (.aload_n 0, 1) := by decide +kernel
theorem dX10_feed_13 : decode cX10_feed 13 = .ok (.iload_n 1, 1) := by decide +kernel
theorem dX10_feed_14 : decode cX10_feed 14 = .ok (.invokevirtual 105, 3) := by decide +kernel
theorem dX10_feed_17 : decode cX10_feed 17 = .ok (.aload_n 0, 1) := by decide +kernel
theorem dX10_feed_18 : decode cX10_feed 18 = .ok (.iload_n 2, 1) := by decide +kernel
theorem dX10_feed_19 : decode cX10_feed 19 = .ok (.invokevirtual 105, 3) := by decide +kernel
theorem dX10_feed_22 : decode cX10_feed 22 = .ok (.aload_n 0, 1) := by decide +kernel
theorem dX10_feed_23 : decode cX10_feed 23 = .ok (.iload_n 3, 1) := by decide +kernel
theorem dX10_feed_24 : decode cX10_feed 24 = .ok (.invokevirtual 105, 3) := by decide +kernel
theorem dX10_feed_27 : decode cX10_feed 27 = .ok (.aload_n 0, 1) := by decide +kernel
theorem dX10_feed_28 : decode cX10_feed 28 = .ok (.iload 4, 2) := by decide +kernel
theorem dX10_feed_30 : decode cX10_feed 30 = .ok (.invokevirtual 105, 3) := by decide +kernel
theorem dX10_feed_33 : decode cX10_feed 33 = .ok (.aload_n 0, 1) := by decide +kernel
theorem dX10_feed_34 : decode cX10_feed 34 = .ok (.iload 5, 2) := by decide +kernel
theorem dX10_feed_36 : decode cX10_feed 36 = .ok (.invokevirtual 105, 3) := by decide +kernel
theorem dX10_feed_39 : decode cX10_feed 39 = .ok (.aload_n 0, 1) := by decide +kernel
theorem dX10_feed_40 : decode cX10_feed 40 = .ok (.getfield 13, 3) := by decide +kernel
theorem dX10_feed_43 : decode cX10_feed 43 = .ok (.ireturn, 1) := by decide +kernel
theorem dX10_putBytes_0 : decode cX10_putBytes 0 = .ok (.bipush 24, 2) := by decide +kernel
theorem dX10_putBytes_2 : decode cX10_putBytes 2 = .ok (.istore_n 2, 1) := by decide +kernel
theorem dX10_putBytes_3 : decode cX10_putBytes 3 = .ok (.iload_n 2, 1) := by decide +kernel
theorem dX10_putBytes_4 : decode cX10_putBytes 4 = .ok (.ifCond .lt 42, 3) := by decide +kernel
theorem dX10_putBytes_7 : decode cX10_putBytes 7 = .ok (.aload_n 0, 1) := by decide +kernel
theorem dX10_putBytes_8 : decode cX10_putBytes 8 = .ok (.getfield 13, 3) := by decide +kernel
theorem dX10_putBytes_11 : decode cX10_putBytes 11 = .ok (.sipush 1600, 3) := by decide +kernel
theorem dX10_putBytes_14 : decode cX10_putBytes 14 = .ok (.if_icmp .ge 32, 3) := by decide +kernel
theorem dX10_putBytes_17 : decode cX10_putBytes 17 = .ok (.aload_n 0, 1) := by decide +kernel
theorem dX10_putBytes_18 : decode cX10_putBytes 18 = .ok (.getfield 9, 3) := by decide +kernel
theorem dX10_putBytes_21 : decode cX10_putBytes 21 = .ok (.aload_n 0, 1) := by decide +kernel
theorem dX10_putBytes_22 : decode cX10_putBytes 22 = .ok (.getfield 13, 3) := by decide +kernel
theorem dX10_putBytes_25 : decode cX10_putBytes 25 = .ok (.iload_n 1, 1) := by decide +kernel
theorem dX10_putBytes_26 : decode cX10_putBytes 26 = .ok (.iload_n 2, 1) := by decide +kernel
theorem dX10_putBytes_27 : decode cX10_putBytes 27 = .ok (.iushr, 1) := by decide +kernel
theorem dX10_putBytes_28 : decode cX10_putBytes 28 = .ok (.i2b, 1) := by decide +kernel
theorem dX10_putBytes_29 : decode cX10_putBytes 29 = .ok (.bastore, 1) := by decide +kernel
theorem dX10_putBytes_30 : decode cX10_putBytes 30 = .ok (.aload_n 0, 1) := by decide +kernel
theorem dX10_putBytes_31 : decode cX10_putBytes 31 = .ok (.dup, 1) := by decide +kernel
theorem dX10_putBytes_32 : decode cX10_putBytes 32 = .ok (.getfield 13, 3) := by decide +kernel
theorem dX10_putBytes_35 : decode cX10_putBytes 35 = .ok (.iconst 1, 1) := by decide +kernel
theorem dX10_putBytes_36 : decode cX10_putBytes 36 = .ok (.iadd, 1) := by decide +kernel
theorem dX10_putBytes_37 : decode cX10_putBytes 37 = .ok (.putfield 13, 3) := by decide +kernel
theorem dX10_putBytes_40 : decode cX10_putBytes 40 = .ok (.iinc 2 (-8), 3) := by decide +kernel
theorem dX10_putBytes_43 : decode cX10_putBytes 43 = .ok (.goto (-40), 3) := by decide +kernel
theorem dX10_putBytes_46 : decode cX10_putBytes 46 = .ok (.return_, 1) := by decide +kernel
theorem dX10_end_0 : decode cX10_end 0 = .ok (.iload_n 1, 1) := by decide +kernel
theorem dX10_end_1 : decode cX10_end 1 = .ok (.ifCond .lt 11, 3) := by decide +kernel
theorem dX10_end_4 : decode cX10_end 4 = .ok (.iload_n 1, 1) := by decide +kernel
theorem dX10_end_5 : decode cX10_end 5 = .ok (.aload_n 0, 1) := by decide +kernel
theorem dX10_end_6 : decode cX10_end 6 = .ok (.getfield 13, 3) := by decide +kernel
theorem dX10_end_9 : decode cX10_end 9 = .ok (.if_icmp .le 5, 3) := by decide +kernel
theorem dX10_end_12 : decode cX10_end 12 = .ok (.iconst (-1), 1) := by decide +kernel
theorem dX10_end_13 : decode cX10_end 13 = .ok (.ireturn, 1) := by decide +kernel
theorem dX10_end_14 : decode cX10_end 14 = .ok (.aload_n 0, 1) := by decide +kernel
theorem dX10_end_15 : decode cX10_end 15 = .ok (.iload_n 1, 1) := by decide +kernel
theorem dX10_end_16 : decode cX10_end 16 = .ok (.putfield 13, 3) := by decide +kernel
theorem dX10_end_19 : decode cX10_end 19 = .ok (.iload_n 1, 1) := by decide +kernel
theorem dX10_end_20 : decode cX10_end 20 = .ok (.ireturn, 1) := by decide +kernel
theorem dX10_line_0 : decode cX10_line 0 = .ok (.aload_n 0, 1) := by decide +kernel
theorem dX10_line_1 : decode cX10_line 1 = .ok (.getfield 20, 3) := by decide +kernel
theorem dX10_line_4 : decode cX10_line 4 = .ok (.aload_n 0, 1) := by decide +kernel
theorem dX10_line_5 : decode cX10_line 5 = .ok (.getfield 31, 3) := by decide +kernel
theorem dX10_line_8 : decode cX10_line 8 = .ok (.aload_n 0, 1) := by decide +kernel
theorem dX10_line_9 : decode cX10_line 9 = .ok (.getfield 9, 3) := by decide +kernel
theorem dX10_line_12 : decode cX10_line 12 = .ok (.aload_n 0, 1) := by decide +kernel
theorem dX10_line_13 : decode cX10_line 13 = .ok (.getfield 13, 3) := by decide +kernel
theorem dX10_line_16 : decode cX10_line 16 = .ok (.invokevirtual 109, 3) := by decide +kernel
theorem dX10_line_19 : decode cX10_line 19 = .ok (.aload_n 0, 1) := by decide +kernel
theorem dX10_line_20 : decode cX10_line 20 = .ok (.getfield 20, 3) := by decide +kernel
theorem dX10_line_23 : decode cX10_line 23 = .ok (.getfield 113, 3) := by decide +kernel
theorem dX10_line_26 : decode cX10_line 26 = .ok (.ifCond .eq 6, 3) := by decide +kernel
theorem dX10_line_32 : decode cX10_line 32 = .ok (.aload_n 0, 1) := by decide +kernel
theorem dX10_line_33 : decode cX10_line 33 = .ok (.getfield 27, 3) := by decide +kernel
theorem dX10_line_36 : decode cX10_line 36 = .ok (.astore_n 1, 1) := by decide +kernel
theorem dX10_line_37 : decode cX10_line 37 = .ok (.aload_n 0, 1) := by decide +kernel
theorem dX10_line_38 : decode cX10_line 38 = .ok (.aload_n 0, 1) := by decide +kernel
theorem dX10_line_39 : decode cX10_line 39 = .ok (.getfield 31, 3) := by decide +kernel
theorem dX10_line_42 : decode cX10_line 42 = .ok (.putfield 27, 3) := by decide +kernel
theorem dX10_line_45 : decode cX10_line 45 = .ok (.aload_n 0, 1) := by decide +kernel
theorem dX10_line_46 : decode cX10_line 46 = .ok (.aload_n 1, 1) := by decide +kernel
theorem dX10_line_47 : decode cX10_line 47 = .ok (.putfield 31, 3) := by decide +kernel
theorem dX10_line_50 : decode cX10_line 50 = .ok (.aload_n 0, 1) := by decide +kernel
theorem dX10_line_51 : decode cX10_line 51 = .ok (.iconst 0, 1) := by decide +kernel
theorem dX10_line_52 : decode cX10_line 52 = .ok (.putfield 13, 3) := by decide +kernel
theorem dX10_line_55 : decode cX10_line 55 = .ok (.aload_n 0, 1) := by decide +kernel
theorem dX10_line_56 : decode cX10_line 56 = .ok (.iconst 0, 1) := by decide +kernel
theorem dX10_line_57 : decode cX10_line 57 = .ok (.invokevirtual 116, 3) := by decide +kernel
theorem dX10_line_60 : decode cX10_line 60 = .ok (.aload_n 0, 1) := by decide +kernel
theorem dX10_line_61 : decode cX10_line 61 = .ok (.getfield 27, 3) := by decide +kernel
theorem dX10_line_64 : decode cX10_line 64 = .ok (.getfield 119, 3) := by decide +kernel
theorem dX10_line_67 : decode cX10_line 67 = .ok (.ireturn, 1) := by decide +kernel
theorem dX10_layTrack_0 : decode cX10_layTrack 0 = .ok (.aload_n 0, 1) := by decide +kernel
theorem dX10_layTrack_1 : decode cX10_layTrack 1 = .ok (.getfield 55, 3) := by decide +kernel
theorem dX10_layTrack_4 : decode cX10_layTrack 4 = .ok (.aload_n 0, 1) := by decide +kernel
theorem dX10_layTrack_5 : decode cX10_layTrack 5 = .ok (.getfield 27, 3) := by decide +kernel
theorem dX10_layTrack_8 : decode cX10_layTrack 8 = .ok (.iload_n 1, 1) := by decide +kernel
theorem dX10_layTrack_9 : decode cX10_layTrack 9 = .ok (.invokevirtual 101, 3) := by decide +kernel
theorem dX10_layTrack_12 : decode cX10_layTrack 12 = .ok (.aload_n 0, 1) := by decide +kernel
theorem dX10_layTrack_13 : decode cX10_layTrack 13 = .ok (.getfield 64, 3) := by decide +kernel
theorem dX10_layTrack_16 : decode cX10_layTrack 16 = .ok (.invokevirtual 122, 3) := by decide +kernel
theorem dX10_layTrack_19 : decode cX10_layTrack 19 = .ok (.return_, 1) := by decide +kernel
theorem dX10_fault_0 : decode cX10_fault 0 = .ok (.iload_n 1, 1) := by decide +kernel
theorem dX10_fault_1 : decode cX10_fault 1 = .ok (.ifCond .ne 11, 3) := by decide +kernel
theorem dX10_fault_4 : decode cX10_fault 4 = .ok (.aload_n 0, 1) := by decide +kernel
theorem dX10_fault_5 : decode cX10_fault 5 = .ok (.getfield 20, 3) := by decide +kernel
theorem dX10_fault_8 : decode cX10_fault 8 = .ok (.getfield 113, 3) := by decide +kernel
theorem dX10_fault_11 : decode cX10_fault 11 = .ok (.ireturn, 1) := by decide +kernel
theorem dX10_fault_12 : decode cX10_fault 12 = .ok (.iload_n 1, 1) := by decide +kernel
theorem dX10_fault_13 : decode cX10_fault 13 = .ok (.iconst 1, 1) := by decide +kernel
theorem dX10_fault_14 : decode cX10_fault 14 = .ok (.if_icmp .ne 13, 3) := by decide +kernel
theorem dX10_fault_17 : decode cX10_fault 17 = .ok (.aload_n 0, 1) := by decide +kernel
theorem dX10_fault_18 : decode cX10_fault 18 = .ok (.getfield 20, 3) := by decide +kernel
theorem dX10_fault_21 : decode cX10_fault 21 = .ok (.getfield 125, 3) := by decide +kernel
theorem dX10_fault_24 : decode cX10_fault 24 = .ok (.goto 4, 3) := by decide +kernel
theorem dX10_fault_27 : decode cX10_fault 27 = .ok (.iconst (-1), 1) := by decide +kernel
theorem dX10_fault_28 : decode cX10_fault 28 = .ok (.ireturn, 1) := by decide +kernel
theorem dX10_hasLine_0 : decode cX10_hasLine 0 = .ok (.aload_n 0, 1) := by decide +kernel
theorem dX10_hasLine_1 : decode cX10_hasLine 1 = .ok (.getfield 27, 3) := by decide +kernel
theorem dX10_hasLine_4 : decode cX10_hasLine 4 = .ok (.getfield 128, 3) := by decide +kernel
theorem dX10_hasLine_7 : decode cX10_hasLine 7 = .ok (.ifCond .le 7, 3) := by decide +kernel
theorem dX10_hasLine_14 : decode cX10_hasLine 14 = .ok (.iconst 0, 1) := by decide +kernel
theorem dX10_hasLine_15 : decode cX10_hasLine 15 = .ok (.ireturn, 1) := by decide +kernel
theorem dX10_hasYard_0 : decode cX10_hasYard 0 = .ok (.aload_n 0, 1) := by decide +kernel
theorem dX10_hasYard_1 : decode cX10_hasYard 1 = .ok (.invokevirtual 131, 3) := by decide +kernel
theorem dX10_hasYard_4 : decode cX10_hasYard 4 = .ok (.ifCond .eq 22, 3) := by decide +kernel
theorem dX10_hasYard_26 : decode cX10_hasYard 26 = .ok (.iconst 0, 1) := by decide +kernel
theorem dX10_hasYard_27 : decode cX10_hasYard 27 = .ok (.ireturn, 1) := by decide +kernel
theorem dX10_hasRun_0 : decode cX10_hasRun 0 = .ok (.aload_n 0, 1) := by decide +kernel
theorem dX10_hasRun_1 : decode cX10_hasRun 1 = .ok (.getfield 27, 3) := by decide +kernel
theorem dX10_hasRun_4 : decode cX10_hasRun 4 = .ok (.getfield 135, 3) := by decide +kernel
theorem dX10_hasRun_7 : decode cX10_hasRun 7 = .ok (.iload_n 1, 1) := by decide +kernel
theorem dX10_hasRun_8 : decode cX10_hasRun 8 = .ok (.invokevirtual 139, 3) := by decide +kernel
theorem dX10_hasRun_11 : decode cX10_hasRun 11 = .ok (.ifCond .eq 26, 3) := by decide +kernel
theorem dX10_hasRun_37 : decode cX10_hasRun 37 = .ok (.iconst 0, 1) := by decide +kernel
theorem dX10_hasRun_38 : decode cX10_hasRun 38 = .ok (.ireturn, 1) := by decide +kernel
theorem dX10_hasAim_0 : decode cX10_hasAim 0 = .ok (.aload_n 0, 1) := by decide +kernel
theorem dX10_hasAim_1 : decode cX10_hasAim 1 = .ok (.iload_n 1, 1) := by decide +kernel
theorem dX10_hasAim_2 : decode cX10_hasAim 2 = .ok (.iload_n 3, 1) := by decide +kernel
theorem dX10_hasAim_3 : decode cX10_hasAim 3 = .ok (.iload 4, 2) := by decide +kernel
theorem dX10_hasAim_5 : decode cX10_hasAim 5 = .ok (.invokevirtual 148, 3) := by decide +kernel
theorem dX10_hasAim_8 : decode cX10_hasAim 8 = .ok (.ifCond .eq 21, 3) := by decide +kernel
theorem dX10_hasAim_29 : decode cX10_hasAim 29 = .ok (.iconst 0, 1) := by decide +kernel
theorem dX10_hasAim_30 : decode cX10_hasAim 30 = .ok (.ireturn, 1) := by decide +kernel
theorem dX10_takesAim_0 : decode cX10_takesAim 0 = .ok (.aload_n 0, 1) := by decide +kernel
theorem dX10_takesAim_1 : decode cX10_takesAim 1 = .ok (.iload_n 1, 1) := by decide +kernel
theorem dX10_takesAim_2 : decode cX10_takesAim 2 = .ok (.iload_n 2, 1) := by decide +kernel
theorem dX10_takesAim_3 : decode cX10_takesAim 3 = .ok (.iload_n 3, 1) := by decide +kernel
theorem dX10_takesAim_4 : decode cX10_takesAim 4 = .ok (.iload 4, 2) := by decide +kernel
theorem dX10_takesAim_6 : decode cX10_takesAim 6 = .ok (.invokevirtual 155, 3) := by decide +kernel
theorem dX10_takesAim_9 : decode cX10_takesAim 9 = .ok (.istore 5, 2) := by decide +kernel
theorem dX10_takesAim_11 : decode cX10_takesAim 11 = .ok (.iload 5, 2) := by decide +kernel
theorem dX10_takesAim_13 : decode cX10_takesAim 13 = .ok (.ifCond .eq 12, 3) := by decide +kernel
theorem dX10_takesAim_25 : decode cX10_takesAim 25 = .ok (.iload 5, 2) := by decide +kernel
theorem dX10_takesAim_27 : decode cX10_takesAim 27 = .ok (.ireturn, 1) := by decide +kernel
theorem dX10_isAmong_0 : decode cX10_isAmong 0 = .ok (.iload_n 0, 1) := by decide +kernel
theorem dX10_isAmong_1 : decode cX10_isAmong 1 = .ok (.iload_n 1, 1) := by decide +kernel
theorem dX10_isAmong_2 : decode cX10_isAmong 2 = .ok (.if_icmp .lt 12, 3) := by decide +kernel
theorem dX10_isAmong_5 : decode cX10_isAmong 5 = .ok (.iload_n 0, 1) := by decide +kernel
theorem dX10_isAmong_6 : decode cX10_isAmong 6 = .ok (.iload_n 2, 1) := by decide +kernel
theorem dX10_isAmong_7 : decode cX10_isAmong 7 = .ok (.if_icmp .gt 7, 3) := by decide +kernel
theorem dX10_isAmong_10 : decode cX10_isAmong 10 = .ok (.iconst 1, 1) := by decide +kernel
theorem dX10_isAmong_11 : decode cX10_isAmong 11 = .ok (.goto 4, 3) := by decide +kernel
theorem dX10_isAmong_14 : decode cX10_isAmong 14 = .ok (.iconst 0, 1) := by decide +kernel
theorem dX10_isAmong_15 : decode cX10_isAmong 15 = .ok (.ireturn, 1) := by decide +kernel
theorem dX10_yard_0 : decode cX10_yard 0 = .ok (.aload_n 0, 1) := by decide +kernel
theorem dX10_yard_1 : decode cX10_yard 1 = .ok (.iload_n 1, 1) := by decide +kernel
theorem dX10_yard_2 : decode cX10_yard 2 = .ok (.invokevirtual 145, 3) := by decide +kernel
theorem dX10_yard_5 : decode cX10_yard 5 = .ok (.ifCond .ne 6, 3) := by decide +kernel
theorem dX10_yard_8 : decode cX10_yard 8 = .ok (.bipush (-2), 2) := by decide +kernel
theorem dX10_yard_10 : decode cX10_yard 10 = .ok (.ireturn, 1) := by decide +kernel
theorem dX10_coach_0 : decode cX10_coach 0 = .ok (.aload_n 0, 1) := by decide +kernel
theorem dX10_coach_1 : decode cX10_coach 1 = .ok (.getfield 27, 3) := by decide +kernel
theorem dX10_coach_4 : decode cX10_coach 4 = .ok (.getfield 173, 3) := by decide +kernel
theorem dX10_coach_7 : decode cX10_coach 7 = .ok (.iload_n 1, 1) := by decide +kernel
theorem dX10_coach_8 : decode cX10_coach 8 = .ok (.invokevirtual 139, 3) := by decide +kernel
theorem dX10_coach_11 : decode cX10_coach 11 = .ok (.ifCond .eq 12, 3) := by decide +kernel
theorem dX10_coach_23 : decode cX10_coach 23 = .ok (.bipush (-2), 2) := by decide +kernel
theorem dX10_coach_25 : decode cX10_coach 25 = .ok (.ireturn, 1) := by decide +kernel
theorem dX10_rain_0 : decode cX10_rain 0 = .ok (.aload_n 0, 1) := by decide +kernel
theorem dX10_rain_1 : decode cX10_rain 1 = .ok (.invokevirtual 131, 3) := by decide +kernel
theorem dX10_rain_4 : decode cX10_rain 4 = .ok (.ifCond .eq 13, 3) := by decide +kernel
theorem dX10_rain_17 : decode cX10_rain 17 = .ok (.bipush (-2), 2) := by decide +kernel
theorem dX10_rain_19 : decode cX10_rain 19 = .ok (.ireturn, 1) := by decide +kernel
theorem dX10_post_0 : decode cX10_post 0 = .ok (.aload_n 0, 1) := by decide +kernel
theorem dX10_post_1 : decode cX10_post 1 = .ok (.getfield 27, 3) := by decide +kernel
theorem dX10_post_4 : decode cX10_post 4 = .ok (.getfield 173, 3) := by decide +kernel
theorem dX10_post_7 : decode cX10_post 7 = .ok (.iload_n 1, 1) := by decide +kernel
theorem dX10_post_8 : decode cX10_post 8 = .ok (.invokevirtual 139, 3) := by decide +kernel
theorem dX10_post_11 : decode cX10_post 11 = .ok (.ifCond .eq 11, 3) := by decide +kernel
theorem dX10_post_22 : decode cX10_post 22 = .ok (.bipush (-2), 2) := by decide +kernel
theorem dX10_post_24 : decode cX10_post 24 = .ok (.ireturn, 1) := by decide +kernel
theorem dX10_shift_0 : decode cX10_shift 0 = .ok (.aload_n 0, 1) := by decide +kernel
theorem dX10_shift_1 : decode cX10_shift 1 = .ok (.getfield 27, 3) := by decide +kernel
theorem dX10_shift_4 : decode cX10_shift 4 = .ok (.getfield 193, 3) := by decide +kernel
theorem dX10_shift_7 : decode cX10_shift 7 = .ok (.iload_n 1, 1) := by decide +kernel
theorem dX10_shift_8 : decode cX10_shift 8 = .ok (.invokevirtual 139, 3) := by decide +kernel
theorem dX10_shift_11 : decode cX10_shift 11 = .ok (.ifCond .eq 14, 3) := by decide +kernel
theorem dX10_shift_25 : decode cX10_shift 25 = .ok (.bipush (-2), 2) := by decide +kernel
theorem dX10_shift_27 : decode cX10_shift 27 = .ok (.ireturn, 1) := by decide +kernel
theorem dX10_swap_0 : decode cX10_swap 0 = .ok (.aload_n 0, 1) := by decide +kernel
theorem dX10_swap_1 : decode cX10_swap 1 = .ok (.getfield 27, 3) := by decide +kernel
theorem dX10_swap_4 : decode cX10_swap 4 = .ok (.getfield 173, 3) := by decide +kernel
theorem dX10_swap_7 : decode cX10_swap 7 = .ok (.astore_n 3, 1) := by decide +kernel
theorem dX10_swap_8 : decode cX10_swap 8 = .ok (.aload_n 3, 1) := by decide +kernel
theorem dX10_swap_9 : decode cX10_swap 9 = .ok (.iload_n 1, 1) := by decide +kernel
theorem dX10_swap_10 : decode cX10_swap 10 = .ok (.invokevirtual 139, 3) := by decide +kernel
theorem dX10_swap_13 : decode cX10_swap 13 = .ok (.ifCond .eq 31, 3) := by decide +kernel
theorem dX10_swap_44 : decode cX10_swap 44 = .ok (.bipush (-2), 2) := by decide +kernel
theorem dX10_swap_46 : decode cX10_swap 46 = .ok (.ireturn, 1) := by decide +kernel
theorem dX10_tick_0 : decode cX10_tick 0 = .ok (.aload_n 0, 1) := by decide +kernel
theorem dX10_tick_1 : decode cX10_tick 1 = .ok (.iload_n 1, 1) := by decide +kernel
theorem dX10_tick_2 : decode cX10_tick 2 = .ok (.iload_n 2, 1) := by decide +kernel
theorem dX10_tick_3 : decode cX10_tick 3 = .ok (.iload_n 3, 1) := by decide +kernel
theorem dX10_tick_4 : decode cX10_tick 4 = .ok (.invokevirtual 148, 3) := by decide +kernel
theorem dX10_tick_7 : decode cX10_tick 7 = .ok (.ifCond .eq 23, 3) := by decide +kernel
theorem dX10_tick_30 : decode cX10_tick 30 = .ok (.bipush (-2), 2) := by decide +kernel
theorem dX10_tick_32 : decode cX10_tick 32 = .ok (.ireturn, 1) := by decide +kernel
theorem dX10_can_0 : decode cX10_can 0 = .ok (.aload_n 0, 1) := by decide +kernel
theorem dX10_can_1 : decode cX10_can 1 = .ok (.iload_n 1, 1) := by decide +kernel
theorem dX10_can_2 : decode cX10_can 2 = .ok (.iload_n 2, 1) := by decide +kernel
theorem dX10_can_3 : decode cX10_can 3 = .ok (.iload_n 3, 1) := by decide +kernel
theorem dX10_can_4 : decode cX10_can 4 = .ok (.iload 4, 2) := by decide +kernel
theorem dX10_can_6 : decode cX10_can 6 = .ok (.invokevirtual 200, 3) := by decide +kernel
theorem dX10_can_9 : decode cX10_can 9 = .ok (.ifCond .ne 6, 3) := by decide +kernel
theorem dX10_can_12 : decode cX10_can 12 = .ok (.bipush (-2), 2) := by decide +kernel
theorem dX10_can_14 : decode cX10_can 14 = .ok (.ireturn, 1) := by decide +kernel
theorem dX10_step_0 : decode cX10_step 0 = .ok (.aload_n 0, 1) := by decide +kernel
theorem dX10_step_1 : decode cX10_step 1 = .ok (.iload_n 1, 1) := by decide +kernel
theorem dX10_step_2 : decode cX10_step 2 = .ok (.iload_n 2, 1) := by decide +kernel
theorem dX10_step_3 : decode cX10_step 3 = .ok (.iload_n 3, 1) := by decide +kernel
theorem dX10_step_4 : decode cX10_step 4 = .ok (.iload 4, 2) := by decide +kernel
theorem dX10_step_6 : decode cX10_step 6 = .ok (.invokevirtual 200, 3) := by decide +kernel
theorem dX10_step_9 : decode cX10_step 9 = .ok (.ifCond .ne 6, 3) := by decide +kernel
theorem dX10_step_12 : decode cX10_step 12 = .ok (.bipush (-2), 2) := by decide +kernel
theorem dX10_step_14 : decode cX10_step 14 = .ok (.ireturn, 1) := by decide +kernel
theorem dX10_handled_0 : decode cX10_handled 0 = .ok (.aload_n 0, 1) := by decide +kernel
theorem dX10_handled_1 : decode cX10_handled 1 = .ok (.iload_n 1, 1) := by decide +kernel
theorem dX10_handled_2 : decode cX10_handled 2 = .ok (.iload_n 2, 1) := by decide +kernel
theorem dX10_handled_3 : decode cX10_handled 3 = .ok (.iload_n 3, 1) := by decide +kernel
theorem dX10_handled_4 : decode cX10_handled 4 = .ok (.iload 4, 2) := by decide +kernel
theorem dX10_handled_6 : decode cX10_handled 6 = .ok (.invokevirtual 200, 3) := by decide +kernel
theorem dX10_handled_9 : decode cX10_handled 9 = .ok (.ifCond .eq 13, 3) := by decide +kernel
theorem dX10_handled_22 : decode cX10_handled 22 = .ok (.bipush (-2), 2) := by decide +kernel
theorem dX10_handled_24 : decode cX10_handled 24 = .ok (.ireturn, 1) := by decide +kernel
theorem dX10_hard_0 : decode cX10_hard 0 = .ok (.aload_n 0, 1) := by decide +kernel
theorem dX10_hard_1 : decode cX10_hard 1 = .ok (.iload_n 1, 1) := by decide +kernel
theorem dX10_hard_2 : decode cX10_hard 2 = .ok (.iload_n 2, 1) := by decide +kernel
theorem dX10_hard_3 : decode cX10_hard 3 = .ok (.iload_n 3, 1) := by decide +kernel
theorem dX10_hard_4 : decode cX10_hard 4 = .ok (.iload 4, 2) := by decide +kernel
theorem dX10_hard_6 : decode cX10_hard 6 = .ok (.iconst 0, 1) := by decide +kernel
theorem dX10_hard_7 : decode cX10_hard 7 = .ok (.invokevirtual 218, 3) := by decide +kernel
theorem dX10_hard_10 : decode cX10_hard 10 = .ok (.ireturn, 1) := by decide +kernel
theorem dX10_quick_0 : decode cX10_quick 0 = .ok (.aload_n 0, 1) := by decide +kernel
theorem dX10_quick_1 : decode cX10_quick 1 = .ok (.iload_n 1, 1) := by decide +kernel
theorem dX10_quick_2 : decode cX10_quick 2 = .ok (.iload_n 2, 1) := by decide +kernel
theorem dX10_quick_3 : decode cX10_quick 3 = .ok (.iload_n 3, 1) := by decide +kernel
theorem dX10_quick_4 : decode cX10_quick 4 = .ok (.iload 4, 2) := by decide +kernel
theorem dX10_quick_6 : decode cX10_quick 6 = .ok (.iconst 1, 1) := by decide +kernel
theorem dX10_quick_7 : decode cX10_quick 7 = .ok (.invokevirtual 218, 3) := by decide +kernel
theorem dX10_quick_10 : decode cX10_quick 10 = .ok (.ireturn, 1) := by decide +kernel
theorem dX10_jolt_0 : decode cX10_jolt 0 = .ok (.aload_n 0, 1) := by decide +kernel
theorem dX10_jolt_1 : decode cX10_jolt 1 = .ok (.iload_n 1, 1) := by decide +kernel
theorem dX10_jolt_2 : decode cX10_jolt 2 = .ok (.iload_n 2, 1) := by decide +kernel
theorem dX10_jolt_3 : decode cX10_jolt 3 = .ok (.iload_n 3, 1) := by decide +kernel
theorem dX10_jolt_4 : decode cX10_jolt 4 = .ok (.iload 4, 2) := by decide +kernel
theorem dX10_jolt_6 : decode cX10_jolt 6 = .ok (.iconst 2, 1) := by decide +kernel
theorem dX10_jolt_7 : decode cX10_jolt 7 = .ok (.invokevirtual 218, 3) := by decide +kernel
theorem dX10_jolt_10 : decode cX10_jolt 10 = .ok (.ireturn, 1) := by decide +kernel
theorem dX10_leastMeasure_0 : decode cX10_leastMeasure 0 = .ok (.aload_n 0, 1) := by decide +kernel
theorem dX10_leastMeasure_1 : decode cX10_leastMeasure 1 = .ok (.iload_n 1, 1) := by decide +kernel
theorem dX10_leastMeasure_2 : decode cX10_leastMeasure 2 = .ok (.iload_n 2, 1) := by decide +kernel
theorem dX10_leastMeasure_3 : decode cX10_leastMeasure 3 = .ok (.iload_n 3, 1) := by decide +kernel
theorem dX10_leastMeasure_4 : decode cX10_leastMeasure 4 = .ok (.iload 4, 2) := by decide +kernel
theorem dX10_leastMeasure_6 : decode cX10_leastMeasure 6 = .ok (.invokevirtual 155, 3) := by decide +kernel
theorem dX10_leastMeasure_9 : decode cX10_leastMeasure 9 = .ok (.ifCond .ne 6, 3) := by decide +kernel
theorem dX10_leastMeasure_12 : decode cX10_leastMeasure 12 = .ok (.bipush (-2), 2) := by decide +kernel
theorem dX10_leastMeasure_14 : decode cX10_leastMeasure 14 = .ok (.ireturn, 1) := by decide +kernel
theorem dX10_stands_0 : decode cX10_stands 0 = .ok (.aload_n 0, 1) := by decide +kernel
theorem dX10_stands_1 : decode cX10_stands 1 = .ok (.iload_n 1, 1) := by decide +kernel
theorem dX10_stands_2 : decode cX10_stands 2 = .ok (.iload_n 2, 1) := by decide +kernel
theorem dX10_stands_3 : decode cX10_stands 3 = .ok (.iload_n 3, 1) := by decide +kernel
theorem dX10_stands_4 : decode cX10_stands 4 = .ok (.invokevirtual 148, 3) := by decide +kernel
theorem dX10_stands_7 : decode cX10_stands 7 = .ok (.ifCond .eq 13, 3) := by decide +kernel
theorem dX10_stands_20 : decode cX10_stands 20 = .ok (.bipush (-2), 2) := by decide +kernel
theorem dX10_stands_22 : decode cX10_stands 22 = .ok (.ireturn, 1) := by decide +kernel
theorem dX10_posts_0 : decode cX10_posts 0 = .ok (.aload_n 0, 1) := by decide +kernel
theorem dX10_posts_1 : decode cX10_posts 1 = .ok (.iload_n 1, 1) := by decide +kernel
theorem dX10_posts_2 : decode cX10_posts 2 = .ok (.iload_n 2, 1) := by decide +kernel
theorem dX10_posts_3 : decode cX10_posts 3 = .ok (.iconst 0, 1) := by decide +kernel
theorem dX10_posts_4 : decode cX10_posts 4 = .ok (.iload_n 3, 1) := by decide +kernel
theorem dX10_posts_5 : decode cX10_posts 5 = .ok (.invokevirtual 200, 3) := by decide +kernel
theorem dX10_posts_8 : decode cX10_posts 8 = .ok (.ifCond .eq 13, 3) := by decide +kernel
theorem dX10_posts_21 : decode cX10_posts 21 = .ok (.bipush (-2), 2) := by decide +kernel
theorem dX10_posts_23 : decode cX10_posts 23 = .ok (.ireturn, 1) := by decide +kernel
theorem dX10_speeds_0 : decode cX10_speeds 0 = .ok (.aload_n 0, 1) := by decide +kernel
theorem dX10_speeds_1 : decode cX10_speeds 1 = .ok (.iload_n 1, 1) := by decide +kernel
theorem dX10_speeds_2 : decode cX10_speeds 2 = .ok (.iload_n 2, 1) := by decide +kernel
theorem dX10_speeds_3 : decode cX10_speeds 3 = .ok (.iload_n 3, 1) := by decide +kernel
theorem dX10_speeds_4 : decode cX10_speeds 4 = .ok (.iconst 1, 1) := by decide +kernel
theorem dX10_speeds_5 : decode cX10_speeds 5 = .ok (.invokevirtual 200, 3) := by decide +kernel
theorem dX10_speeds_8 : decode cX10_speeds 8 = .ok (.ifCond .ne 6, 3) := by decide +kernel
theorem dX10_speeds_11 : decode cX10_speeds 11 = .ok (.bipush (-2), 2) := by decide +kernel
theorem dX10_speeds_13 : decode cX10_speeds 13 = .ok (.ireturn, 1) := by decide +kernel
theorem dX10_wetter_0 : decode cX10_wetter 0 = .ok (.aload_n 0, 1) := by decide +kernel
theorem dX10_wetter_1 : decode cX10_wetter 1 = .ok (.iload_n 1, 1) := by decide +kernel
theorem dX10_wetter_2 : decode cX10_wetter 2 = .ok (.iload_n 2, 1) := by decide +kernel
theorem dX10_wetter_3 : decode cX10_wetter 3 = .ok (.iload_n 3, 1) := by decide +kernel
theorem dX10_wetter_4 : decode cX10_wetter 4 = .ok (.iload 4, 2) := by decide +kernel
theorem dX10_wetter_6 : decode cX10_wetter 6 = .ok (.invokevirtual 155, 3) := by decide +kernel
theorem dX10_wetter_9 : decode cX10_wetter 9 = .ok (.ifCond .ne 6, 3) := by decide +kernel
theorem dX10_wetter_12 : decode cX10_wetter 12 = .ok (.bipush (-2), 2) := by decide +kernel
theorem dX10_wetter_14 : decode cX10_wetter 14 = .ok (.ireturn, 1) := by decide +kernel
theorem dX10_room_0 : decode cX10_room 0 = .ok (.aload_n 0, 1) := by decide +kernel
theorem dX10_room_1 : decode cX10_room 1 = .ok (.getfield 27, 3) := by decide +kernel
theorem dX10_room_4 : decode cX10_room 4 = .ok (.getfield 135, 3) := by decide +kernel
theorem dX10_room_7 : decode cX10_room 7 = .ok (.iload_n 1, 1) := by decide +kernel
theorem dX10_room_8 : decode cX10_room 8 = .ok (.invokevirtual 139, 3) := by decide +kernel
theorem dX10_room_11 : decode cX10_room 11 = .ok (.ifCond .eq 17, 3) := by decide +kernel
theorem dX10_room_28 : decode cX10_room 28 = .ok (.ldc 242, 2) := by decide +kernel
theorem dX10_room_30 : decode cX10_room 30 = .ok (.ireturn, 1) := by decide +kernel
theorem dX10_told_0 : decode cX10_told 0 = .ok (.iload_n 1, 1) := by decide +kernel
theorem dX10_told_1 : decode cX10_told 1 = .ok (.iconst 0, 1) := by decide +kernel
theorem dX10_told_2 : decode cX10_told 2 = .ok (.iconst 3, 1) := by decide +kernel
theorem dX10_told_3 : decode cX10_told 3 = .ok (.invokestatic 176, 3) := by decide +kernel
theorem dX10_told_6 : decode cX10_told 6 = .ok (.ifCond .eq 14, 3) := by decide +kernel
theorem dX10_told_9 : decode cX10_told 9 = .ok (.aload_n 0, 1) := by decide +kernel
theorem dX10_told_10 : decode cX10_told 10 = .ok (.iload_n 2, 1) := by decide +kernel
theorem dX10_told_11 : decode cX10_told 11 = .ok (.iload_n 3, 1) := by decide +kernel
theorem dX10_told_12 : decode cX10_told 12 = .ok (.iload 4, 2) := by decide +kernel
theorem dX10_told_14 : decode cX10_told 14 = .ok (.invokevirtual 148, 3) := by decide +kernel
theorem dX10_told_17 : decode cX10_told 17 = .ok (.ifCond .ne 6, 3) := by decide +kernel
theorem dX10_told_20 : decode cX10_told 20 = .ok (.bipush (-2), 2) := by decide +kernel
theorem dX10_told_22 : decode cX10_told 22 = .ok (.ireturn, 1) := by decide +kernel
theorem dX10_judge_0 : decode cX10_judge 0 = .ok (.iload_n 1, 1) := by decide +kernel
theorem dX10_judge_1 : decode cX10_judge 1 = .ok (.iconst 0, 1) := by decide +kernel
theorem dX10_judge_2 : decode cX10_judge 2 = .ok (.iconst 3, 1) := by decide +kernel
theorem dX10_judge_3 : decode cX10_judge 3 = .ok (.invokestatic 176, 3) := by decide +kernel
theorem dX10_judge_6 : decode cX10_judge 6 = .ok (.ifCond .eq 16, 3) := by decide +kernel
theorem dX10_judge_9 : decode cX10_judge 9 = .ok (.aload_n 0, 1) := by decide +kernel
theorem dX10_judge_10 : decode cX10_judge 10 = .ok (.iload_n 2, 1) := by decide +kernel
theorem dX10_judge_11 : decode cX10_judge 11 = .ok (.iload_n 3, 1) := by decide +kernel
theorem dX10_judge_12 : decode cX10_judge 12 = .ok (.iload 4, 2) := by decide +kernel
theorem dX10_judge_14 : decode cX10_judge 14 = .ok (.iload 5, 2) := by decide +kernel
theorem dX10_judge_16 : decode cX10_judge 16 = .ok (.invokevirtual 200, 3) := by decide +kernel
theorem dX10_judge_19 : decode cX10_judge 19 = .ok (.ifCond .ne 6, 3) := by decide +kernel
theorem dX10_judge_22 : decode cX10_judge 22 = .ok (.bipush (-2), 2) := by decide +kernel
theorem dX10_judge_24 : decode cX10_judge 24 = .ok (.ireturn, 1) := by decide +kernel
theorem dX10_pulls_0 : decode cX10_pulls 0 = .ok (.aload_n 0, 1) := by decide +kernel
theorem dX10_pulls_1 : decode cX10_pulls 1 = .ok (.getfield 27, 3) := by decide +kernel
theorem dX10_pulls_4 : decode cX10_pulls 4 = .ok (.getfield 193, 3) := by decide +kernel
theorem dX10_pulls_7 : decode cX10_pulls 7 = .ok (.iload_n 1, 1) := by decide +kernel
theorem dX10_pulls_8 : decode cX10_pulls 8 = .ok (.invokevirtual 139, 3) := by decide +kernel
theorem dX10_pulls_11 : decode cX10_pulls 11 = .ok (.ifCond .eq 21, 3) := by decide +kernel
theorem dX10_pulls_32 : decode cX10_pulls 32 = .ok (.bipush (-2), 2) := by decide +kernel
theorem dX10_pulls_34 : decode cX10_pulls 34 = .ok (.ireturn, 1) := by decide +kernel
theorem dX10_passes_0 : decode cX10_passes 0 = .ok (.aload_n 0, 1) := by decide +kernel
theorem dX10_passes_1 : decode cX10_passes 1 = .ok (.getfield 27, 3) := by decide +kernel
theorem dX10_passes_4 : decode cX10_passes 4 = .ok (.getfield 193, 3) := by decide +kernel
theorem dX10_passes_7 : decode cX10_passes 7 = .ok (.iload_n 1, 1) := by decide +kernel
theorem dX10_passes_8 : decode cX10_passes 8 = .ok (.invokevirtual 139, 3) := by decide +kernel
theorem dX10_passes_11 : decode cX10_passes 11 = .ok (.ifCond .eq 11, 3) := by decide +kernel
theorem dX10_passes_22 : decode cX10_passes 22 = .ok (.bipush (-2), 2) := by decide +kernel
theorem dX10_passes_24 : decode cX10_passes 24 = .ok (.ireturn, 1) := by decide +kernel
theorem dX10_lets_0 : decode cX10_lets 0 = .ok (.aload_n 0, 1) := by decide +kernel
theorem dX10_lets_1 : decode cX10_lets 1 = .ok (.getfield 27, 3) := by decide +kernel
theorem dX10_lets_4 : decode cX10_lets 4 = .ok (.getfield 173, 3) := by decide +kernel
theorem dX10_lets_7 : decode cX10_lets 7 = .ok (.iload_n 1, 1) := by decide +kernel
theorem dX10_lets_8 : decode cX10_lets 8 = .ok (.invokevirtual 139, 3) := by decide +kernel
theorem dX10_lets_11 : decode cX10_lets 11 = .ok (.ifCond .eq 12, 3) := by decide +kernel
theorem dX10_lets_23 : decode cX10_lets 23 = .ok (.bipush (-2), 2) := by decide +kernel
theorem dX10_lets_25 : decode cX10_lets 25 = .ok (.ireturn, 1) := by decide +kernel
theorem dX10_comes_0 : decode cX10_comes 0 = .ok (.aload_n 0, 1) := by decide +kernel
theorem dX10_comes_1 : decode cX10_comes 1 = .ok (.getfield 27, 3) := by decide +kernel
theorem dX10_comes_4 : decode cX10_comes 4 = .ok (.getfield 173, 3) := by decide +kernel
theorem dX10_comes_7 : decode cX10_comes 7 = .ok (.iload_n 1, 1) := by decide +kernel
theorem dX10_comes_8 : decode cX10_comes 8 = .ok (.invokevirtual 139, 3) := by decide +kernel
theorem dX10_comes_11 : decode cX10_comes 11 = .ok (.ifCond .eq 12, 3) := by decide +kernel
theorem dX10_comes_23 : decode cX10_comes 23 = .ok (.bipush (-2), 2) := by decide +kernel
theorem dX10_comes_25 : decode cX10_comes 25 = .ok (.ireturn, 1) := by decide +kernel
theorem dX10_clear_0 : decode cX10_clear 0 = .ok (.aload_n 0, 1) := by decide +kernel
theorem dX10_clear_1 : decode cX10_clear 1 = .ok (.getfield 27, 3) := by decide +kernel
theorem dX10_clear_4 : decode cX10_clear 4 = .ok (.getfield 173, 3) := by decide +kernel
theorem dX10_clear_7 : decode cX10_clear 7 = .ok (.iload_n 1, 1) := by decide +kernel
theorem dX10_clear_8 : decode cX10_clear 8 = .ok (.invokevirtual 139, 3) := by decide +kernel
theorem dX10_clear_11 : decode cX10_clear 11 = .ok (.ifCond .ne 6, 3) := by decide +kernel
theorem dX10_clear_14 : decode cX10_clear 14 = .ok (.bipush (-2), 2) := by decide +kernel
theorem dX10_clear_16 : decode cX10_clear 16 = .ok (.ireturn, 1) := by decide +kernel
theorem dX10_good_0 : decode cX10_good 0 = .ok (.aload_n 0, 1) := by decide +kernel
theorem dX10_good_1 : decode cX10_good 1 = .ok (.invokevirtual 131, 3) := by decide +kernel
theorem dX10_good_4 : decode cX10_good 4 = .ok (.ifCond .ne 5, 3) := by decide +kernel
theorem dX10_good_7 : decode cX10_good 7 = .ok (.iconst (-1), 1) := by decide +kernel
theorem dX10_good_8 : decode cX10_good 8 = .ok (.ireturn, 1) := by decide +kernel
theorem dX10_breach_0 : decode cX10_breach 0 = .ok (.aload_n 0, 1) := by decide +kernel
theorem dX10_breach_1 : decode cX10_breach 1 = .ok (.invokevirtual 131, 3) := by decide +kernel
theorem dX10_breach_4 : decode cX10_breach 4 = .ok (.ifCond .eq 12, 3) := by decide +kernel
theorem dX10_breach_16 : decode cX10_breach 16 = .ok (.bipush (-2), 2) := by decide +kernel
theorem dX10_breach_18 : decode cX10_breach 18 = .ok (.ireturn, 1) := by decide +kernel
theorem dX10_mistake_0 : decode cX10_mistake 0 = .ok (.aload_n 0, 1) := by decide +kernel
theorem dX10_mistake_1 : decode cX10_mistake 1 = .ok (.invokevirtual 131, 3) := by decide +kernel
theorem dX10_mistake_4 : decode cX10_mistake 4 = .ok (.ifCond .eq 22, 3) := by decide +kernel
theorem dX10_mistake_26 : decode cX10_mistake 26 = .ok (.bipush (-2), 2) := by decide +kernel
theorem dX10_mistake_28 : decode cX10_mistake 28 = .ok (.ireturn, 1) := by decide +kernel
theorem dX10_weak_0 : decode cX10_weak 0 = .ok (.aload_n 0, 1) := by decide +kernel
theorem dX10_weak_1 : decode cX10_weak 1 = .ok (.invokevirtual 131, 3) := by decide +kernel
theorem dX10_weak_4 : decode cX10_weak 4 = .ok (.ifCond .eq 13, 3) := by decide +kernel
theorem dX10_weak_17 : decode cX10_weak 17 = .ok (.bipush (-2), 2) := by decide +kernel
theorem dX10_weak_19 : decode cX10_weak 19 = .ok (.ireturn, 1) := by decide +kernel
theorem dX10_start_0 : decode cX10_start 0 = .ok (.aload_n 0, 1) := by decide +kernel
theorem dX10_start_1 : decode cX10_start 1 = .ok (.getfield 27, 3) := by decide +kernel
theorem dX10_start_4 : decode cX10_start 4 = .ok (.getfield 193, 3) := by decide +kernel
theorem dX10_start_7 : decode cX10_start 7 = .ok (.iload_n 1, 1) := by decide +kernel
theorem dX10_start_8 : decode cX10_start 8 = .ok (.invokevirtual 139, 3) := by decide +kernel
theorem dX10_start_11 : decode cX10_start 11 = .ok (.ifCond .ne 6, 3) := by decide +kernel
theorem dX10_start_14 : decode cX10_start 14 = .ok (.bipush (-2), 2) := by decide +kernel
theorem dX10_start_16 : decode cX10_start 16 = .ok (.ireturn, 1) := by decide +kernel
theorem dX10_days_0 : decode cX10_days 0 = .ok (.aload_n 0, 1) := by decide +kernel
theorem dX10_days_1 : decode cX10_days 1 = .ok (.iload_n 1, 1) := by decide +kernel
theorem dX10_days_2 : decode cX10_days 2 = .ok (.iload_n 3, 1) := by decide +kernel
theorem dX10_days_3 : decode cX10_days 3 = .ok (.iload 4, 2) := by decide +kernel
theorem dX10_days_5 : decode cX10_days 5 = .ok (.invokevirtual 360, 3) := by decide +kernel
theorem dX10_days_8 : decode cX10_days 8 = .ok (.ifCond .eq 13, 3) := by decide +kernel
theorem dX10_days_21 : decode cX10_days 21 = .ok (.bipush (-2), 2) := by decide +kernel
theorem dX10_days_23 : decode cX10_days 23 = .ok (.ireturn, 1) := by decide +kernel
theorem dX10_day_0 : decode cX10_day 0 = .ok (.aload_n 0, 1) := by decide +kernel
theorem dX10_day_1 : decode cX10_day 1 = .ok (.iload_n 1, 1) := by decide +kernel
theorem dX10_day_2 : decode cX10_day 2 = .ok (.iload_n 2, 1) := by decide +kernel
theorem dX10_day_3 : decode cX10_day 3 = .ok (.iload_n 3, 1) := by decide +kernel
theorem dX10_day_4 : decode cX10_day 4 = .ok (.invokevirtual 360, 3) := by decide +kernel
theorem dX10_day_7 : decode cX10_day 7 = .ok (.ifCond .ne 6, 3) := by decide +kernel
theorem dX10_day_10 : decode cX10_day 10 = .ok (.bipush (-2), 2) := by decide +kernel
theorem dX10_day_12 : decode cX10_day 12 = .ok (.ireturn, 1) := by decide +kernel
theorem dX10_hasDay_0 : decode cX10_hasDay 0 = .ok (.aload_n 0, 1) := by decide +kernel
theorem dX10_hasDay_1 : decode cX10_hasDay 1 = .ok (.invokevirtual 131, 3) := by decide +kernel
theorem dX10_hasDay_4 : decode cX10_hasDay 4 = .ok (.ifCond .eq 38, 3) := by decide +kernel
theorem dX10_hasDay_42 : decode cX10_hasDay 42 = .ok (.iconst 0, 1) := by decide +kernel
theorem dX10_hasDay_43 : decode cX10_hasDay 43 = .ok (.ireturn, 1) := by decide +kernel
theorem dX10_shunts_0 : decode cX10_shunts 0 = .ok (.aload_n 0, 1) := by decide +kernel
theorem dX10_shunts_1 : decode cX10_shunts 1 = .ok (.getfield 27, 3) := by decide +kernel
theorem dX10_shunts_4 : decode cX10_shunts 4 = .ok (.getfield 193, 3) := by decide +kernel
theorem dX10_shunts_7 : decode cX10_shunts 7 = .ok (.iload_n 1, 1) := by decide +kernel
theorem dX10_shunts_8 : decode cX10_shunts 8 = .ok (.invokevirtual 139, 3) := by decide +kernel
theorem dX10_shunts_11 : decode cX10_shunts 11 = .ok (.ifCond .eq 12, 3) := by decide +kernel
theorem dX10_shunts_23 : decode cX10_shunts 23 = .ok (.bipush (-2), 2) := by decide +kernel
theorem dX10_shunts_25 : decode cX10_shunts 25 = .ok (.ireturn, 1) := by decide +kernel
theorem dX10_order_0 : decode cX10_order 0 = .ok (.aload_n 0, 1) := by decide +kernel
theorem dX10_order_1 : decode cX10_order 1 = .ok (.getfield 27, 3) := by decide +kernel
theorem dX10_order_4 : decode cX10_order 4 = .ok (.getfield 193, 3) := by decide +kernel
theorem dX10_order_7 : decode cX10_order 7 = .ok (.iload_n 1, 1) := by decide +kernel
theorem dX10_order_8 : decode cX10_order 8 = .ok (.invokevirtual 139, 3) := by decide +kernel
theorem dX10_order_11 : decode cX10_order 11 = .ok (.ifCond .ne 6, 3) := by decide +kernel
theorem dX10_order_14 : decode cX10_order 14 = .ok (.bipush (-2), 2) := by decide +kernel
theorem dX10_order_16 : decode cX10_order 16 = .ok (.ireturn, 1) := by decide +kernel
theorem dX10_blocked_0 : decode cX10_blocked 0 = .ok (.aload_n 0, 1) := by decide +kernel
theorem dX10_blocked_1 : decode cX10_blocked 1 = .ok (.getfield 27, 3) := by decide +kernel
theorem dX10_blocked_4 : decode cX10_blocked 4 = .ok (.getfield 193, 3) := by decide +kernel
theorem dX10_blocked_7 : decode cX10_blocked 7 = .ok (.iload_n 1, 1) := by decide +kernel
theorem dX10_blocked_8 : decode cX10_blocked 8 = .ok (.invokevirtual 139, 3) := by decide +kernel
theorem dX10_blocked_11 : decode cX10_blocked 11 = .ok (.ifCond .ne 6, 3) := by decide +kernel
theorem dX10_blocked_14 : decode cX10_blocked 14 = .ok (.bipush (-2), 2) := by decide +kernel
theorem dX10_blocked_16 : decode cX10_blocked 16 = .ok (.ireturn, 1) := by decide +kernel
theorem dX10_saved_0 : decode cX10_saved 0 = .ok (.aload_n 0, 1) := by decide +kernel
theorem dX10_saved_1 : decode cX10_saved 1 = .ok (.getfield 27, 3) := by decide +kernel
theorem dX10_saved_4 : decode cX10_saved 4 = .ok (.getfield 193, 3) := by decide +kernel
theorem dX10_saved_7 : decode cX10_saved 7 = .ok (.iload_n 1, 1) := by decide +kernel
theorem dX10_saved_8 : decode cX10_saved 8 = .ok (.invokevirtual 139, 3) := by decide +kernel
theorem dX10_saved_11 : decode cX10_saved 11 = .ok (.ifCond .eq 13, 3) := by decide +kernel
theorem dX10_saved_24 : decode cX10_saved 24 = .ok (.ldc 242, 2) := by decide +kernel
theorem dX10_saved_26 : decode cX10_saved 26 = .ok (.ireturn, 1) := by decide +kernel
theorem dX10_best_0 : decode cX10_best 0 = .ok (.aload_n 0, 1) := by decide +kernel
theorem dX10_best_1 : decode cX10_best 1 = .ok (.getfield 27, 3) := by decide +kernel
theorem dX10_best_4 : decode cX10_best 4 = .ok (.getfield 173, 3) := by decide +kernel
theorem dX10_best_7 : decode cX10_best 7 = .ok (.iload_n 1, 1) := by decide +kernel
theorem dX10_best_8 : decode cX10_best 8 = .ok (.invokevirtual 139, 3) := by decide +kernel
theorem dX10_best_11 : decode cX10_best 11 = .ok (.ifCond .ne 6, 3) := by decide +kernel
theorem dX10_best_14 : decode cX10_best 14 = .ok (.bipush (-2), 2) := by decide +kernel
theorem dX10_best_16 : decode cX10_best 16 = .ok (.ireturn, 1) := by decide +kernel
theorem dX10_margin_0 : decode cX10_margin 0 = .ok (.aload_n 0, 1) := by decide +kernel
theorem dX10_margin_1 : decode cX10_margin 1 = .ok (.getfield 27, 3) := by decide +kernel
theorem dX10_margin_4 : decode cX10_margin 4 = .ok (.getfield 173, 3) := by decide +kernel
theorem dX10_margin_7 : decode cX10_margin 7 = .ok (.iload_n 1, 1) := by decide +kernel
theorem dX10_margin_8 : decode cX10_margin 8 = .ok (.invokevirtual 139, 3) := by decide +kernel
theorem dX10_margin_11 : decode cX10_margin 11 = .ok (.ifCond .eq 12, 3) := by decide +kernel
theorem dX10_margin_23 : decode cX10_margin 23 = .ok (.bipush (-2), 2) := by decide +kernel
theorem dX10_margin_25 : decode cX10_margin 25 = .ok (.ireturn, 1) := by decide +kernel
theorem dX10_count_0 : decode cX10_count 0 = .ok (.iload_n 1, 1) := by decide +kernel
theorem dX10_count_1 : decode cX10_count 1 = .ok (.tableswitch 129 0 8 #[51, 59, 70, 81, 92, 103, 111, 116, 124], 51) := by decide +kernel
theorem dX10_count_52 : decode cX10_count 52 = .ok (.aload_n 0, 1) := by decide +kernel
theorem dX10_count_53 : decode cX10_count 53 = .ok (.getfield 27, 3) := by decide +kernel
theorem dX10_count_56 : decode cX10_count 56 = .ok (.getfield 128, 3) := by decide +kernel
theorem dX10_count_59 : decode cX10_count 59 = .ok (.ireturn, 1) := by decide +kernel
theorem dX10_count_60 : decode cX10_count 60 = .ok (.aload_n 0, 1) := by decide +kernel
theorem dX10_count_61 : decode cX10_count 61 = .ok (.getfield 27, 3) := by decide +kernel
theorem dX10_count_64 : decode cX10_count 64 = .ok (.getfield 135, 3) := by decide +kernel
theorem dX10_count_67 : decode cX10_count 67 = .ok (.getfield 283, 3) := by decide +kernel
theorem dX10_count_70 : decode cX10_count 70 = .ok (.ireturn, 1) := by decide +kernel
theorem dX10_count_71 : decode cX10_count 71 = .ok (.aload_n 0, 1) := by decide +kernel
theorem dX10_count_72 : decode cX10_count 72 = .ok (.getfield 27, 3) := by decide +kernel
theorem dX10_count_75 : decode cX10_count 75 = .ok (.getfield 152, 3) := by decide +kernel
theorem dX10_count_78 : decode cX10_count 78 = .ok (.getfield 283, 3) := by decide +kernel
theorem dX10_count_81 : decode cX10_count 81 = .ok (.ireturn, 1) := by decide +kernel
theorem dX10_count_82 : decode cX10_count 82 = .ok (.aload_n 0, 1) := by decide +kernel
theorem dX10_count_83 : decode cX10_count 83 = .ok (.getfield 27, 3) := by decide +kernel
theorem dX10_count_86 : decode cX10_count 86 = .ok (.getfield 193, 3) := by decide +kernel
theorem dX10_count_89 : decode cX10_count 89 = .ok (.getfield 283, 3) := by decide +kernel
theorem dX10_count_92 : decode cX10_count 92 = .ok (.ireturn, 1) := by decide +kernel
theorem dX10_count_93 : decode cX10_count 93 = .ok (.aload_n 0, 1) := by decide +kernel
theorem dX10_count_94 : decode cX10_count 94 = .ok (.getfield 27, 3) := by decide +kernel
theorem dX10_count_97 : decode cX10_count 97 = .ok (.getfield 173, 3) := by decide +kernel
theorem dX10_count_100 : decode cX10_count 100 = .ok (.getfield 283, 3) := by decide +kernel
theorem dX10_count_103 : decode cX10_count 103 = .ok (.ireturn, 1) := by decide +kernel
theorem dX10_count_104 : decode cX10_count 104 = .ok (.aload_n 0, 1) := by decide +kernel
theorem dX10_count_105 : decode cX10_count 105 = .ok (.getfield 27, 3) := by decide +kernel
theorem dX10_count_108 : decode cX10_count 108 = .ok (.getfield 119, 3) := by decide +kernel
theorem dX10_count_111 : decode cX10_count 111 = .ok (.ireturn, 1) := by decide +kernel
theorem dX10_count_112 : decode cX10_count 112 = .ok (.aload_n 0, 1) := by decide +kernel
theorem dX10_count_113 : decode cX10_count 113 = .ok (.getfield 13, 3) := by decide +kernel
theorem dX10_count_116 : decode cX10_count 116 = .ok (.ireturn, 1) := by decide +kernel
theorem dX10_count_117 : decode cX10_count 117 = .ok (.aload_n 0, 1) := by decide +kernel
theorem dX10_count_118 : decode cX10_count 118 = .ok (.getfield 55, 3) := by decide +kernel
theorem dX10_count_121 : decode cX10_count 121 = .ok (.getfield 183, 3) := by decide +kernel
theorem dX10_count_124 : decode cX10_count 124 = .ok (.ireturn, 1) := by decide +kernel
theorem dX10_count_125 : decode cX10_count 125 = .ok (.aload_n 0, 1) := by decide +kernel
theorem dX10_count_126 : decode cX10_count 126 = .ok (.invokevirtual 419, 3) := by decide +kernel
theorem dX10_count_129 : decode cX10_count 129 = .ok (.ireturn, 1) := by decide +kernel
theorem dX10_count_130 : decode cX10_count 130 = .ok (.iconst (-1), 1) := by decide +kernel
theorem dX10_count_131 : decode cX10_count 131 = .ok (.ireturn, 1) := by decide +kernel
theorem dX10_slotsHeld_0 : decode cX10_slotsHeld 0 = .ok (.iconst 0, 1) := by decide +kernel
theorem dX10_slotsHeld_1 : decode cX10_slotsHeld 1 = .ok (.istore_n 1, 1) := by decide +kernel
theorem dX10_slotsHeld_2 : decode cX10_slotsHeld 2 = .ok (.iconst 0, 1) := by decide +kernel
theorem dX10_slotsHeld_3 : decode cX10_slotsHeld 3 = .ok (.istore_n 2, 1) := by decide +kernel
theorem dX10_slotsHeld_4 : decode cX10_slotsHeld 4 = .ok (.iload_n 2, 1) := by decide +kernel
theorem dX10_slotsHeld_5 : decode cX10_slotsHeld 5 = .ok (.iconst 4, 1) := by decide +kernel
theorem dX10_slotsHeld_6 : decode cX10_slotsHeld 6 = .ok (.if_icmp .ge 24, 3) := by decide +kernel
theorem dX10_slotsHeld_9 : decode cX10_slotsHeld 9 = .ok (.aload_n 0, 1) := by decide +kernel
theorem dX10_slotsHeld_10 : decode cX10_slotsHeld 10 = .ok (.getfield 48, 3) := by decide +kernel
theorem dX10_slotsHeld_13 : decode cX10_slotsHeld 13 = .ok (.iload_n 2, 1) := by decide +kernel
theorem dX10_slotsHeld_14 : decode cX10_slotsHeld 14 = .ok (.aaload, 1) := by decide +kernel
theorem dX10_slotsHeld_15 : decode cX10_slotsHeld 15 = .ok (.invokevirtual 253, 3) := by decide +kernel
theorem dX10_slotsHeld_18 : decode cX10_slotsHeld 18 = .ok (.ifCond .eq 6, 3) := by decide +kernel
theorem dX10_slotsHeld_24 : decode cX10_slotsHeld 24 = .ok (.iinc 2 1, 3) := by decide +kernel
theorem dX10_slotsHeld_27 : decode cX10_slotsHeld 27 = .ok (.goto (-23), 3) := by decide +kernel
theorem dX10_slotsHeld_30 : decode cX10_slotsHeld 30 = .ok (.iload_n 1, 1) := by decide +kernel
theorem dX10_slotsHeld_31 : decode cX10_slotsHeld 31 = .ok (.ireturn, 1) := by decide +kernel
theorem dX10_keep_0 : decode cX10_keep 0 = .ok (.iload_n 1, 1) := by decide +kernel
theorem dX10_keep_1 : decode cX10_keep 1 = .ok (.iconst 0, 1) := by decide +kernel
theorem dX10_keep_2 : decode cX10_keep 2 = .ok (.iconst 2, 1) := by decide +kernel
theorem dX10_keep_3 : decode cX10_keep 3 = .ok (.invokestatic 176, 3) := by decide +kernel
theorem dX10_keep_6 : decode cX10_keep 6 = .ok (.ifCond .ne 6, 3) := by decide +kernel
theorem dX10_keep_9 : decode cX10_keep 9 = .ok (.bipush (-2), 2) := by decide +kernel
theorem dX10_keep_11 : decode cX10_keep 11 = .ok (.ireturn, 1) := by decide +kernel
theorem dX10_keep_12 : decode cX10_keep 12 = .ok (.aload_n 0, 1) := by decide +kernel
theorem dX10_keep_13 : decode cX10_keep 13 = .ok (.getfield 34, 3) := by decide +kernel
theorem dX10_keep_16 : decode cX10_keep 16 = .ok (.iload_n 1, 1) := by decide +kernel
theorem dX10_keep_17 : decode cX10_keep 17 = .ok (.aaload, 1) := by decide +kernel
theorem dX10_keep_18 : decode cX10_keep 18 = .ok (.aload_n 0, 1) := by decide +kernel
theorem dX10_keep_19 : decode cX10_keep 19 = .ok (.getfield 27, 3) := by decide +kernel
theorem dX10_keep_22 : decode cX10_keep 22 = .ok (.invokevirtual 422, 3) := by decide +kernel
theorem dX10_keep_25 : decode cX10_keep 25 = .ok (.aload_n 0, 1) := by decide +kernel
theorem dX10_keep_26 : decode cX10_keep 26 = .ok (.getfield 38, 3) := by decide +kernel
theorem dX10_keep_29 : decode cX10_keep 29 = .ok (.iload_n 1, 1) := by decide +kernel
theorem dX10_keep_30 : decode cX10_keep 30 = .ok (.aload_n 0, 1) := by decide +kernel
theorem dX10_keep_31 : decode cX10_keep 31 = .ok (.getfield 55, 3) := by decide +kernel
theorem dX10_keep_34 : decode cX10_keep 34 = .ok (.getfield 183, 3) := by decide +kernel
theorem dX10_keep_37 : decode cX10_keep 37 = .ok (.iastore, 1) := by decide +kernel
theorem dX10_keep_38 : decode cX10_keep 38 = .ok (.aload_n 0, 1) := by decide +kernel
theorem dX10_keep_39 : decode cX10_keep 39 = .ok (.getfield 42, 3) := by decide +kernel
theorem dX10_keep_42 : decode cX10_keep 42 = .ok (.iload_n 1, 1) := by decide +kernel
theorem dX10_keep_43 : decode cX10_keep 43 = .ok (.iconst 1, 1) := by decide +kernel
theorem dX10_keep_44 : decode cX10_keep 44 = .ok (.bastore, 1) := by decide +kernel
theorem dX10_keep_45 : decode cX10_keep 45 = .ok (.iconst 0, 1) := by decide +kernel
theorem dX10_keep_46 : decode cX10_keep 46 = .ok (.ireturn, 1) := by decide +kernel
theorem dX10_back_0 : decode cX10_back 0 = .ok (.iload_n 1, 1) := by decide +kernel
theorem dX10_back_1 : decode cX10_back 1 = .ok (.iconst 0, 1) := by decide +kernel
theorem dX10_back_2 : decode cX10_back 2 = .ok (.iconst 2, 1) := by decide +kernel
theorem dX10_back_3 : decode cX10_back 3 = .ok (.invokestatic 176, 3) := by decide +kernel
theorem dX10_back_6 : decode cX10_back 6 = .ok (.ifCond .ne 6, 3) := by decide +kernel
theorem dX10_back_9 : decode cX10_back 9 = .ok (.bipush (-2), 2) := by decide +kernel
theorem dX10_back_11 : decode cX10_back 11 = .ok (.ireturn, 1) := by decide +kernel
theorem dX10_back_12 : decode cX10_back 12 = .ok (.aload_n 0, 1) := by decide +kernel
theorem dX10_back_13 : decode cX10_back 13 = .ok (.getfield 42, 3) := by decide +kernel
theorem dX10_back_16 : decode cX10_back 16 = .ok (.iload_n 1, 1) := by decide +kernel
theorem dX10_back_17 : decode cX10_back 17 = .ok (.baload, 1) := by decide +kernel
theorem dX10_back_18 : decode cX10_back 18 = .ok (.ifCond .ne 6, 3) := by decide +kernel
theorem dX10_back_21 : decode cX10_back 21 = .ok (.bipush (-6), 2) := by decide +kernel
theorem dX10_back_23 : decode cX10_back 23 = .ok (.ireturn, 1) := by decide +kernel
theorem dX10_row_0 : decode cX10_row 0 = .ok (.iload_n 1, 1) := by decide +kernel
theorem dX10_row_1 : decode cX10_row 1 = .ok (.iconst 0, 1) := by decide +kernel
theorem dX10_row_2 : decode cX10_row 2 = .ok (.iconst 3, 1) := by decide +kernel
theorem dX10_row_3 : decode cX10_row 3 = .ok (.invokestatic 176, 3) := by decide +kernel
theorem dX10_row_6 : decode cX10_row 6 = .ok (.ifCond .eq 18, 3) := by decide +kernel
theorem dX10_row_9 : decode cX10_row 9 = .ok (.iload_n 2, 1) := by decide +kernel
theorem dX10_row_10 : decode cX10_row 10 = .ok (.iconst 0, 1) := by decide +kernel
theorem dX10_row_11 : decode cX10_row 11 = .ok (.iconst 3, 1) := by decide +kernel
theorem dX10_row_12 : decode cX10_row 12 = .ok (.invokestatic 176, 3) := by decide +kernel
theorem dX10_row_15 : decode cX10_row 15 = .ok (.ifCond .eq 9, 3) := by decide +kernel
theorem dX10_row_18 : decode cX10_row 18 = .ok (.iload_n 3, 1) := by decide +kernel
theorem dX10_row_19 : decode cX10_row 19 = .ok (.bipush 60, 2) := by decide +kernel
theorem dX10_row_21 : decode cX10_row 21 = .ok (.if_icmp .le 6, 3) := by decide +kernel
theorem dX10_row_24 : decode cX10_row 24 = .ok (.bipush (-2), 2) := by decide +kernel
theorem dX10_row_26 : decode cX10_row 26 = .ok (.ireturn, 1) := by decide +kernel
theorem dX10_row_27 : decode cX10_row 27 = .ok (.iload_n 3, 1) := by decide +kernel
theorem dX10_row_28 : decode cX10_row 28 = .ok (.ifCond .ge 6, 3) := by decide +kernel
theorem dX10_row_31 : decode cX10_row 31 = .ok (.bipush (-3), 2) := by decide +kernel
theorem dX10_row_33 : decode cX10_row 33 = .ok (.ireturn, 1) := by decide +kernel
theorem dX10_row_34 : decode cX10_row 34 = .ok (.aload_n 0, 1) := by decide +kernel
theorem dX10_row_35 : decode cX10_row 35 = .ok (.getfield 48, 3) := by decide +kernel
theorem dX10_row_38 : decode cX10_row 38 = .ok (.iload_n 1, 1) := by decide +kernel
theorem dX10_row_39 : decode cX10_row 39 = .ok (.aaload, 1) := by decide +kernel
theorem dX10_row_40 : decode cX10_row 40 = .ok (.iload_n 2, 1) := by decide +kernel
theorem dX10_row_41 : decode cX10_row 41 = .ok (.iload_n 3, 1) := by decide +kernel
theorem dX10_row_42 : decode cX10_row 42 = .ok (.invokevirtual 426, 3) := by decide +kernel
theorem dX10_row_45 : decode cX10_row 45 = .ok (.iconst 0, 1) := by decide +kernel
theorem dX10_row_46 : decode cX10_row 46 = .ok (.ireturn, 1) := by decide +kernel
theorem dX10_write_0 : decode cX10_write 0 = .ok (.iload_n 1, 1) := by decide +kernel
theorem dX10_write_1 : decode cX10_write 1 = .ok (.iconst 0, 1) := by decide +kernel
theorem dX10_write_2 : decode cX10_write 2 = .ok (.iconst 3, 1) := by decide +kernel
theorem dX10_write_3 : decode cX10_write 3 = .ok (.invokestatic 176, 3) := by decide +kernel
theorem dX10_write_6 : decode cX10_write 6 = .ok (.ifCond .ne 6, 3) := by decide +kernel
theorem dX10_write_9 : decode cX10_write 9 = .ok (.bipush (-2), 2) := by decide +kernel
theorem dX10_write_11 : decode cX10_write 11 = .ok (.ireturn, 1) := by decide +kernel
theorem dX10_write_12 : decode cX10_write 12 = .ok (.aload_n 0, 1) := by decide +kernel
theorem dX10_write_13 : decode cX10_write 13 = .ok (.getfield 48, 3) := by decide +kernel
theorem dX10_write_16 : decode cX10_write 16 = .ok (.iload_n 1, 1) := by decide +kernel
theorem dX10_write_17 : decode cX10_write 17 = .ok (.aaload, 1) := by decide +kernel
theorem dX10_write_18 : decode cX10_write 18 = .ok (.invokevirtual 253, 3) := by decide +kernel
theorem dX10_write_21 : decode cX10_write 21 = .ok (.ifCond .ne 6, 3) := by decide +kernel
theorem dX10_write_24 : decode cX10_write 24 = .ok (.bipush (-6), 2) := by decide +kernel
theorem dX10_write_26 : decode cX10_write 26 = .ok (.ireturn, 1) := by decide +kernel
theorem dX10_paste_0 : decode cX10_paste 0 = .ok (.iload_n 1, 1) := by decide +kernel
theorem dX10_paste_1 : decode cX10_paste 1 = .ok (.iconst 0, 1) := by decide +kernel
theorem dX10_paste_2 : decode cX10_paste 2 = .ok (.iconst 3, 1) := by decide +kernel
theorem dX10_paste_3 : decode cX10_paste 3 = .ok (.invokestatic 176, 3) := by decide +kernel
theorem dX10_paste_6 : decode cX10_paste 6 = .ok (.ifCond .eq 12, 3) := by decide +kernel
theorem dX10_paste_9 : decode cX10_paste 9 = .ok (.iload_n 3, 1) := by decide +kernel
theorem dX10_paste_10 : decode cX10_paste 10 = .ok (.iconst 0, 1) := by decide +kernel
theorem dX10_paste_11 : decode cX10_paste 11 = .ok (.iconst 3, 1) := by decide +kernel
theorem dX10_paste_12 : decode cX10_paste 12 = .ok (.invokestatic 176, 3) := by decide +kernel
theorem dX10_paste_15 : decode cX10_paste 15 = .ok (.ifCond .ne 6, 3) := by decide +kernel
theorem dX10_paste_18 : decode cX10_paste 18 = .ok (.bipush (-2), 2) := by decide +kernel
theorem dX10_paste_20 : decode cX10_paste 20 = .ok (.ireturn, 1) := by decide +kernel
theorem dX10_paste_21 : decode cX10_paste 21 = .ok (.aload_n 0, 1) := by decide +kernel
theorem dX10_paste_22 : decode cX10_paste 22 = .ok (.getfield 48, 3) := by decide +kernel
theorem dX10_paste_25 : decode cX10_paste 25 = .ok (.iload_n 1, 1) := by decide +kernel
theorem dX10_paste_26 : decode cX10_paste 26 = .ok (.aaload, 1) := by decide +kernel
theorem dX10_paste_27 : decode cX10_paste 27 = .ok (.astore 6, 2) := by decide +kernel
theorem dX10_paste_29 : decode cX10_paste 29 = .ok (.aload_n 0, 1) := by decide +kernel
theorem dX10_paste_30 : decode cX10_paste 30 = .ok (.getfield 48, 3) := by decide +kernel
theorem dX10_paste_33 : decode cX10_paste 33 = .ok (.iload_n 3, 1) := by decide +kernel
theorem dX10_paste_34 : decode cX10_paste 34 = .ok (.aaload, 1) := by decide +kernel
theorem dX10_paste_35 : decode cX10_paste 35 = .ok (.astore 7, 2) := by decide +kernel
theorem dX10_paste_37 : decode cX10_paste 37 = .ok (.aload 6, 2) := by decide +kernel
theorem dX10_paste_39 : decode cX10_paste 39 = .ok (.invokevirtual 253, 3) := by decide +kernel
theorem dX10_paste_42 : decode cX10_paste 42 = .ok (.ifCond .eq 11, 3) := by decide +kernel
theorem dX10_paste_53 : decode cX10_paste 53 = .ok (.bipush (-6), 2) := by decide +kernel
theorem dX10_paste_55 : decode cX10_paste 55 = .ok (.ireturn, 1) := by decide +kernel
theorem dX11_init_0 : decode cX11_init 0 = .ok (.aload_n 0, 1) := by decide +kernel
theorem dX11_init_1 : decode cX11_init 1 = .ok (.invokespecial 1, 3) := by decide +kernel
theorem dX11_init_4 : decode cX11_init 4 = .ok (.aload_n 0, 1) := by decide +kernel
theorem dX11_init_5 : decode cX11_init 5 = .ok (.iconst 4, 1) := by decide +kernel
theorem dX11_init_6 : decode cX11_init 6 = .ok (.newarray .int, 2) := by decide +kernel
theorem dX11_init_8 : decode cX11_init 8 = .ok (.putfield 7, 3) := by decide +kernel
theorem dX11_init_11 : decode cX11_init 11 = .ok (.aload_n 0, 1) := by decide +kernel
theorem dX11_init_12 : decode cX11_init 12 = .ok (.iconst 4, 1) := by decide +kernel
theorem dX11_init_13 : decode cX11_init 13 = .ok (.newarray .int, 2) := by decide +kernel
theorem dX11_init_15 : decode cX11_init 15 = .ok (.putfield 13, 3) := by decide +kernel
theorem dX11_init_18 : decode cX11_init 18 = .ok (.aload_n 0, 1) := by decide +kernel
theorem dX11_init_19 : decode cX11_init 19 = .ok (.sipush 240, 3) := by decide +kernel
theorem dX11_init_22 : decode cX11_init 22 = .ok (.newarray .long, 2) := by decide +kernel
theorem dX11_init_24 : decode cX11_init 24 = .ok (.putfield 16, 3) := by decide +kernel
theorem dX11_init_27 : decode cX11_init 27 = .ok (.aload_n 0, 1) := by decide +kernel
theorem dX11_init_28 : decode cX11_init 28 = .ok (.bipush 60, 2) := by decide +kernel
theorem dX11_init_30 : decode cX11_init 30 = .ok (.newarray .long, 2) := by decide +kernel
theorem dX11_init_32 : decode cX11_init 32 = .ok (.putfield 20, 3) := by decide +kernel
theorem dX11_init_35 : decode cX11_init 35 = .ok (.aload_n 0, 1) := by decide +kernel
theorem dX11_init_36 : decode cX11_init 36 = .ok (.sipush 1600, 3) := by decide +kernel
theorem dX11_init_39 : decode cX11_init 39 = .ok (.newarray .byte, 2) := by decide +kernel
theorem dX11_init_41 : decode cX11_init 41 = .ok (.putfield 23, 3) := by decide +kernel
theorem dX11_init_44 : decode cX11_init 44 = .ok (.aload_n 0, 1) := by decide +kernel
theorem dX11_init_45 : decode cX11_init 45 = .ok (.iconst (-1), 1) := by decide +kernel
theorem dX11_init_46 : decode cX11_init 46 = .ok (.putfield 27, 3) := by decide +kernel
theorem dX11_init_49 : decode cX11_init 49 = .ok (.aload_n 0, 1) := by decide +kernel
theorem dX11_init_50 : decode cX11_init 50 = .ok (.iconst 5, 1) := by decide +kernel
theorem dX11_init_51 : decode cX11_init 51 = .ok (.newarray .int, 2) := by decide +kernel
theorem dX11_init_53 : decode cX11_init 53 = .ok (.putfield 31, 3) := by decide +kernel
theorem dX11_init_56 : decode cX11_init 56 = .ok (.aload_n 0, 1) := by decide +kernel
theorem dX11_init_57 : decode cX11_init 57 = .ok (.iconst 5, 1) := by decide +kernel
theorem dX11_init_58 : decode cX11_init 58 = .ok (.newarray .int, 2) := by decide +kernel
theorem dX11_init_60 : decode cX11_init 60 = .ok (.putfield 34, 3) := by decide +kernel
theorem dX11_init_63 : decode cX11_init 63 = .ok (.aload_n 0, 1) := by decide +kernel
theorem dX11_init_64 : decode cX11_init 64 = .ok (.iconst 5, 1) := by decide +kernel
theorem dX11_init_65 : decode cX11_init 65 = .ok (.newarray .int, 2) := by decide +kernel
theorem dX11_init_67 : decode cX11_init 67 = .ok (.putfield 37, 3) := by decide +kernel
theorem dX11_init_70 : decode cX11_init 70 = .ok (.aload_n 0, 1) := by decide +kernel
theorem dX11_init_71 : decode cX11_init 71 = .ok (.bipush 35, 2) := by decide +kernel
theorem dX11_init_73 : decode cX11_init 73 = .ok (.newarray .int, 2) := by decide +kernel
theorem dX11_init_75 : decode cX11_init 75 = .ok (.putfield 40, 3) := by decide +kernel
theorem dX11_init_78 : decode cX11_init 78 = .ok (.aload_n 0, 1) := by decide +kernel
theorem dX11_init_79 : decode cX11_init 79 = .ok (.bipush 80, 2) := by decide +kernel
theorem dX11_init_81 : decode cX11_init 81 = .ok (.newarray .int, 2) := by decide +kernel
theorem dX11_init_83 : decode cX11_init 83 = .ok (.putfield 43, 3) := by decide +kernel
theorem dX11_init_86 : decode cX11_init 86 = .ok (.aload_n 0, 1) := by decide +kernel
theorem dX11_init_87 : decode cX11_init 87 = .ok (.bipush 90, 2) := by decide +kernel
theorem dX11_init_89 : decode cX11_init 89 = .ok (.newarray .int, 2) := by decide +kernel
theorem dX11_init_91 : decode cX11_init 91 = .ok (.putfield 46, 3) := by decide +kernel
theorem dX11_init_94 : decode cX11_init 94 = .ok (.aload_n 0, 1) := by decide +kernel
theorem dX11_init_95 : decode cX11_init 95 = .ok (.bipush 60, 2) := by decide +kernel
theorem dX11_init_97 : decode cX11_init 97 = .ok (.newarray .int, 2) := by decide +kernel
theorem dX11_init_99 : decode cX11_init 99 = .ok (.putfield 49, 3) := by decide +kernel
theorem dX11_init_102 : decode cX11_init 102 = .ok (.aload_n 0, 1) := by decide +kernel
theorem dX11_init_103 : decode cX11_init 103 = .ok (.bipush 60, 2) := by decide +kernel
theorem dX11_init_105 : decode cX11_init 105 = .ok (.newarray .int, 2) := by decide +kernel
theorem dX11_init_107 : decode cX11_init 107 = .ok (.putfield 52, 3) := by decide +kernel
theorem dX11_init_110 : decode cX11_init 110 = .ok (.aload_n 0, 1) := by decide +kernel
theorem dX11_init_111 : decode cX11_init 111 = .ok (.bipush 100, 2) := by decide +kernel
theorem dX11_init_113 : decode cX11_init 113 = .ok (.newarray .int, 2) := by decide +kernel
theorem dX11_init_115 : decode cX11_init 115 = .ok (.putfield 55, 3) := by decide +kernel
theorem dX11_init_118 : decode cX11_init 118 = .ok (.aload_n 0, 1) := by decide +kernel
theorem dX11_init_119 : decode cX11_init 119 = .ok (.bipush 75, 2) := by decide +kernel
theorem dX11_init_121 : decode cX11_init 121 = .ok (.newarray .int, 2) := by decide +kernel
theorem dX11_init_123 : decode cX11_init 123 = .ok (.putfield 58, 3) := by decide +kernel
theorem dX11_init_126 : decode cX11_init 126 = .ok (.aload_n 0, 1) := by decide +kernel
theorem dX11_init_127 : decode cX11_init 127 = .ok (.sipush 400, 3) := by decide +kernel
theorem dX11_init_130 : decode cX11_init 130 = .ok (.newarray .int, 2) := by decide +kernel
theorem dX11_init_132 : decode cX11_init 132 = .ok (.putfield 61, 3) := by decide +kernel
theorem dX11_init_135 : decode cX11_init 135 = .ok (.aload_n 0, 1) := by decide +kernel
theorem dX11_init_136 : decode cX11_init 136 = .ok (.iconst 3, 1) := by decide +kernel
theorem dX11_init_137 : decode cX11_init 137 = .ok (.newarray .boolean, 2) := by decide +kernel
theorem dX11_init_139 : decode cX11_init 139 = .ok (.putfield 64, 3) := by decide +kernel
theorem dX11_init_142 : decode cX11_init 142 = .ok (.aload_n 0, 1) := by decide +kernel
theorem dX11_init_143 : decode cX11_init 143 = .ok (.ldc 68, 2) := by decide +kernel
theorem dX11_init_145 : decode cX11_init 145 = .ok (.newarray .int, 2) := by decide +kernel
theorem dX11_init_147 : decode cX11_init 147 = .ok (.putfield 69, 3) := by decide +kernel
theorem dX11_init_150 : decode cX11_init 150 = .ok (.aload_n 0, 1) := by decide +kernel
theorem dX11_init_151 : decode cX11_init 151 = .ok (.bipush 15, 2) := by decide +kernel
theorem dX11_init_153 : decode cX11_init 153 = .ok (.putfield 72, 3) := by decide +kernel
theorem dX11_init_156 : decode cX11_init 156 = .ok (.aload_n 0, 1) := by decide +kernel
theorem dX11_init_157 : decode cX11_init 157 = .ok (.sipush 401, 3) := by decide +kernel
theorem dX11_init_160 : decode cX11_init 160 = .ok (.newarray .int, 2) := by decide +kernel
theorem dX11_init_162 : decode cX11_init 162 = .ok (.putfield 75, 3) := by decide +kernel
theorem dX11_init_165 : decode cX11_init 165 = .ok (.aload_n 0, 1) := by decide +kernel
theorem dX11_init_166 : decode cX11_init 166 = .ok (.sipush 401, 3) := by decide +kernel
theorem dX11_init_169 : decode cX11_init 169 = .ok (.newarray .boolean, 2) := by decide +kernel
theorem dX11_init_171 : decode cX11_init 171 = .ok (.putfield 78, 3) := by decide +kernel
theorem dX11_init_174 : decode cX11_init 174 = .ok (.aload_n 0, 1) := by decide +kernel
theorem dX11_init_175 : decode cX11_init 175 = .ok (.iconst 5, 1) := by decide +kernel
theorem dX11_init_176 : decode cX11_init 176 = .ok (.newarray .int, 2) := by decide +kernel
theorem dX11_init_178 : decode cX11_init 178 = .ok (.putfield 81, 3) := by decide +kernel
theorem dX11_init_181 : decode cX11_init 181 = .ok (.aload_n 0, 1) := by decide +kernel
theorem dX11_init_182 : decode cX11_init 182 = .ok (.iconst 5, 1) := by decide +kernel
theorem dX11_init_183 : decode cX11_init 183 = .ok (.newarray .int, 2) := by decide +kernel
theorem dX11_init_185 : decode cX11_init 185 = .ok (.putfield 84, 3) := by decide +kernel
theorem dX11_init_188 : decode cX11_init 188 = .ok (.aload_n 0, 1) := by decide +kernel
theorem dX11_init_189 : decode cX11_init 189 = .ok (.iconst 5, 1) := by decide +kernel
theorem dX11_init_190 : decode cX11_init 190 = .ok (.newarray .boolean, 2) := by decide +kernel
theorem dX11_init_192 : decode cX11_init 192 = .ok (.putfield 87, 3) := by decide +kernel
theorem dX11_init_195 : decode cX11_init 195 = .ok (.aload_n 0, 1) := by decide +kernel
theorem dX11_init_196 : decode cX11_init 196 = .ok (.bipush 16, 2) := by decide +kernel
theorem dX11_init_198 : decode cX11_init 198 = .ok (.newarray .int, 2) := by decide +kernel
theorem dX11_init_200 : decode cX11_init 200 = .ok (.putfield 90, 3) := by decide +kernel
theorem dX11_init_203 : decode cX11_init 203 = .ok (.aload_n 0, 1) := by decide +kernel
theorem dX11_init_204 : decode cX11_init 204 = .ok (.bipush 16, 2) := by decide +kernel
theorem dX11_init_206 : decode cX11_init 206 = .ok (.newarray .int, 2) := by decide +kernel
theorem dX11_init_208 : decode cX11_init 208 = .ok (.putfield 93, 3) := by decide +kernel
theorem dX11_init_211 : decode cX11_init 211 = .ok (.aload_n 0, 1) := by decide +kernel
theorem dX11_init_212 : decode cX11_init 212 = .ok (.bipush 16, 2) := by decide +kernel
theorem dX11_init_214 : decode cX11_init 214 = .ok (.newarray .int, 2) := by decide +kernel
theorem dX11_init_216 : decode cX11_init 216 = .ok (.putfield 96, 3) := by decide +kernel
theorem dX11_init_219 : decode cX11_init 219 = .ok (.aload_n 0, 1) := by decide +kernel
theorem dX11_init_220 : decode cX11_init 220 = .ok (.bipush 16, 2) := by decide +kernel
theorem dX11_init_222 : decode cX11_init 222 = .ok (.newarray .int, 2) := by decide +kernel
theorem dX11_init_224 : decode cX11_init 224 = .ok (.putfield 99, 3) := by decide +kernel
theorem dX11_init_227 : decode cX11_init 227 = .ok (.aload_n 0, 1) := by decide +kernel
theorem dX11_init_228 : decode cX11_init 228 = .ok (.bipush 16, 2) := by decide +kernel
theorem dX11_init_230 : decode cX11_init 230 = .ok (.newarray .int, 2) := by decide +kernel
theorem dX11_init_232 : decode cX11_init 232 = .ok (.putfield 102, 3) := by decide +kernel
theorem dX11_init_235 : decode cX11_init 235 = .ok (.aload_n 0, 1) := by decide +kernel
theorem dX11_init_236 : decode cX11_init 236 = .ok (.bipush 16, 2) := by decide +kernel
theorem dX11_init_238 : decode cX11_init 238 = .ok (.newarray .int, 2) := by decide +kernel
theorem dX11_init_240 : decode cX11_init 240 = .ok (.putfield 105, 3) := by decide +kernel
theorem dX11_init_243 : decode cX11_init 243 = .ok (.aload_n 0, 1) := by decide +kernel
theorem dX11_init_244 : decode cX11_init 244 = .ok (.bipush 16, 2) := by decide +kernel
theorem dX11_init_246 : decode cX11_init 246 = .ok (.newarray .boolean, 2) := by decide +kernel
theorem dX11_init_248 : decode cX11_init 248 = .ok (.putfield 108, 3) := by decide +kernel
theorem dX11_init_251 : decode cX11_init 251 = .ok (.aload_n 0, 1) := by decide +kernel
theorem dX11_init_252 : decode cX11_init 252 = .ok (.bipush 16, 2) := by decide +kernel
theorem dX11_init_254 : decode cX11_init 254 = .ok (.newarray .int, 2) := by decide +kernel
theorem dX11_init_256 : decode cX11_init 256 = .ok (.putfield 111, 3) := by decide +kernel
theorem dX11_init_259 : decode cX11_init 259 = .ok (.aload_n 0, 1) := by decide +kernel
theorem dX11_init_260 : decode cX11_init 260 = .ok (.bipush 16, 2) := by decide +kernel
theorem dX11_init_262 : decode cX11_init 262 = .ok (.newarray .int, 2) := by decide +kernel
theorem dX11_init_264 : decode cX11_init 264 = .ok (.putfield 114, 3) := by decide +kernel
theorem dX11_init_267 : decode cX11_init 267 = .ok (.aload_n 0, 1) := by decide +kernel
theorem dX11_init_268 : decode cX11_init 268 = .ok (.iconst 5, 1) := by decide +kernel
theorem dX11_init_269 : decode cX11_init 269 = .ok (.newarray .int, 2) := by decide +kernel
theorem dX11_init_271 : decode cX11_init 271 = .ok (.putfield 117, 3) := by decide +kernel
theorem dX11_init_274 : decode cX11_init 274 = .ok (.iconst 0, 1) := by decide +kernel
theorem dX11_init_275 : decode cX11_init 275 = .ok (.istore_n 1, 1) := by decide +kernel
theorem dX11_init_276 : decode cX11_init 276 = .ok (.iload_n 1, 1) := by decide +kernel
theorem dX11_init_277 : decode cX11_init 277 = .ok (.iconst 4, 1) := by decide +kernel
theorem dX11_init_278 : decode cX11_init 278 = .ok (.if_icmp .ge 16, 3) := by decide +kernel
theorem dX11_init_281 : decode cX11_init 281 = .ok (.aload_n 0, 1) := by decide +kernel
theorem dX11_init_282 : decode cX11_init 282 = .ok (.getfield 7, 3) := by decide +kernel
theorem dX11_init_285 : decode cX11_init 285 = .ok (.iload_n 1, 1) := by decide +kernel
theorem dX11_init_286 : decode cX11_init 286 = .ok (.iconst (-1), 1) := by decide +kernel
theorem dX11_init_287 : decode cX11_init 287 = .ok (.iastore, 1) := by decide +kernel
theorem dX11_init_288 : decode cX11_init 288 = .ok (.iinc 1 1, 3) := by decide +kernel
theorem dX11_init_291 : decode cX11_init 291 = .ok (.goto (-15), 3) := by decide +kernel
theorem dX11_init_294 : decode cX11_init 294 = .ok (.return_, 1) := by decide +kernel
theorem dX11_in_0 : decode cX11_in 0 = .ok (.lload_n 0, 1) := by decide +kernel
theorem dX11_in_1 : decode cX11_in 1 = .ok (.lload_n 2, 1) := by decide +kernel
theorem dX11_in_2 : decode cX11_in 2 = .ok (.lcmp, 1) := by decide +kernel
theorem dX11_in_3 : decode cX11_in 3 = .ok (.ifCond .lt 14, 3) := by decide +kernel
theorem dX11_in_6 : decode cX11_in 6 = .ok (.lload_n 0, 1) := by decide +kernel
theorem dX11_in_7 : decode cX11_in 7 = .ok (.lload 4, 2) := by decide +kernel
theorem dX11_in_9 : decode cX11_in 9 = .ok (.lcmp, 1) := by decide +kernel
theorem dX11_in_10 : decode cX11_in 10 = .ok (.ifCond .gt 7, 3) := by decide +kernel
theorem dX11_in_13 : decode cX11_in 13 = .ok (.iconst 1, 1) := by decide +kernel
theorem dX11_in_14 : decode cX11_in 14 = .ok (.goto 4, 3) := by decide +kernel
theorem dX11_in_17 : decode cX11_in 17 = .ok (.iconst 0, 1) := by decide +kernel
theorem dX11_in_18 : decode cX11_in 18 = .ok (.ireturn, 1) := by decide +kernel
theorem dX11_isSlot_0 : decode cX11_isSlot 0 = .ok (.iload_n 0, 1) := by decide +kernel
theorem dX11_isSlot_1 : decode cX11_isSlot 1 = .ok (.i2l, 1) := by decide +kernel
theorem dX11_isSlot_2 : decode cX11_isSlot 2 = .ok (.lconst 0, 1) := by decide +kernel
theorem dX11_isSlot_3 : decode cX11_isSlot 3 = .ok (.ldc2_w 123, 3) := by decide +kernel
theorem dX11_isSlot_6 : decode cX11_isSlot 6 = .ok (.invokestatic 125, 3) := by decide +kernel
theorem dX11_isSlot_9 : decode cX11_isSlot 9 = .ok (.ireturn, 1) := by decide +kernel
theorem dX11_row_0 : decode cX11_row 0 = .ok (.aload_n 0, 1) := by decide +kernel
theorem dX11_row_1 : decode cX11_row 1 = .ok (.iconst 0, 1) := by decide +kernel
theorem dX11_row_2 : decode cX11_row 2 = .ok (.putfield 120, 3) := by decide +kernel
theorem dX11_row_5 : decode cX11_row 5 = .ok (.iload_n 1, 1) := by decide +kernel
theorem dX11_row_6 : decode cX11_row 6 = .ok (.invokestatic 129, 3) := by decide +kernel
theorem dX11_row_9 : decode cX11_row 9 = .ok (.ifCond .eq 21, 3) := by decide +kernel
theorem dX11_row_12 : decode cX11_row 12 = .ok (.iload_n 2, 1) := by decide +kernel
theorem dX11_row_13 : decode cX11_row 13 = .ok (.i2l, 1) := by decide +kernel
theorem dX11_row_14 : decode cX11_row 14 = .ok (.lconst 0, 1) := by decide +kernel
theorem dX11_row_15 : decode cX11_row 15 = .ok (.ldc2_w 123, 3) := by decide +kernel
theorem dX11_row_18 : decode cX11_row 18 = .ok (.invokestatic 125, 3) := by decide +kernel
theorem dX11_row_21 : decode cX11_row 21 = .ok (.ifCond .eq 9, 3) := by decide +kernel
theorem dX11_row_24 : decode cX11_row 24 = .ok (.iload_n 3, 1) := by decide +kernel
theorem dX11_row_25 : decode cX11_row 25 = .ok (.bipush 60, 2) := by decide +kernel
theorem dX11_row_27 : decode cX11_row 27 = .ok (.if_icmp .le 6, 3) := by decide +kernel
theorem dX11_row_30 : decode cX11_row 30 = .ok (.bipush (-2), 2) := by decide +kernel
theorem dX11_row_32 : decode cX11_row 32 = .ok (.ireturn, 1) := by decide +kernel
theorem dX11_row_33 : decode cX11_row 33 = .ok (.iload_n 3, 1) := by decide +kernel
theorem dX11_row_34 : decode cX11_row 34 = .ok (.ifCond .ge 6, 3) := by decide +kernel
theorem dX11_row_37 : decode cX11_row 37 = .ok (.bipush (-3), 2) := by decide +kernel
theorem dX11_row_39 : decode cX11_row 39 = .ok (.ireturn, 1) := by decide +kernel
theorem dX11_row_40 : decode cX11_row 40 = .ok (.aload_n 0, 1) := by decide +kernel
theorem dX11_row_41 : decode cX11_row 41 = .ok (.getfield 7, 3) := by decide +kernel
theorem dX11_row_44 : decode cX11_row 44 = .ok (.iload_n 1, 1) := by decide +kernel
theorem dX11_row_45 : decode cX11_row 45 = .ok (.iload_n 2, 1) := by decide +kernel
theorem dX11_row_46 : decode cX11_row 46 = .ok (.iastore, 1) := by decide +kernel
theorem dX11_row_47 : decode cX11_row 47 = .ok (.aload_n 0, 1) := by decide +kernel
theorem dX11_row_48 : decode cX11_row 48 = .ok (.getfield 13, 3) := by decide +kernel
theorem dX11_row_51 : decode cX11_row 51 = .ok (.iload_n 1, 1) := by decide +kernel
theorem dX11_row_52 : decode cX11_row 52 = .ok (.iload_n 3, 1) := by decide +kernel
theorem dX11_row_53 : decode cX11_row 53 = .ok (.iastore, 1) := by decide +kernel
theorem dX11_row_54 : decode cX11_row 54 = .ok (.iconst 0, 1) := by decide +kernel
theorem dX11_row_55 : decode cX11_row 55 = .ok (.istore 4, 2) := by decide +kernel
theorem dX11_row_57 : decode cX11_row 57 = .ok (.iload 4, 2) := by decide +kernel
theorem dX11_row_59 : decode cX11_row 59 = .ok (.iload_n 3, 1) := by decide +kernel
theorem dX11_row_60 : decode cX11_row 60 = .ok (.if_icmp .ge 22, 3) := by decide +kernel
theorem dX11_row_63 : decode cX11_row 63 = .ok (.aload_n 0, 1) := by decide +kernel
theorem dX11_row_64 : decode cX11_row 64 = .ok (.getfield 16, 3) := by decide +kernel
theorem dX11_row_67 : decode cX11_row 67 = .ok (.bipush 60, 2) := by decide +kernel
theorem dX11_row_69 : decode cX11_row 69 = .ok (.iload_n 1, 1) := by decide +kernel
theorem dX11_row_70 : decode cX11_row 70 = .ok (.imul, 1) := by decide +kernel
theorem dX11_row_71 : decode cX11_row 71 = .ok (.iload 4, 2) := by decide +kernel
theorem dX11_row_73 : decode cX11_row 73 = .ok (.iadd, 1) := by decide +kernel
theorem dX11_row_74 : decode cX11_row 74 = .ok (.lconst 0, 1) := by decide +kernel
theorem dX11_row_75 : decode cX11_row 75 = .ok (.lastore, 1) := by decide +kernel
theorem dX11_row_76 : decode cX11_row 76 = .ok (.iinc 4 1, 3) := by decide +kernel
theorem dX11_row_79 : decode cX11_row 79 = .ok (.goto (-22), 3) := by decide +kernel
theorem dX11_row_82 : decode cX11_row 82 = .ok (.iconst 0, 1) := by decide +kernel
theorem dX11_row_83 : decode cX11_row 83 = .ok (.ireturn, 1) := by decide +kernel
theorem dX11_write_0 : decode cX11_write 0 = .ok (.aload_n 0, 1) := by decide +kernel
theorem dX11_write_1 : decode cX11_write 1 = .ok (.iconst 0, 1) := by decide +kernel
theorem dX11_write_2 : decode cX11_write 2 = .ok (.putfield 120, 3) := by decide +kernel
theorem dX11_write_5 : decode cX11_write 5 = .ok (.iload_n 1, 1) := by decide +kernel
theorem dX11_write_6 : decode cX11_write 6 = .ok (.invokestatic 129, 3) := by decide +kernel
theorem dX11_write_9 : decode cX11_write 9 = .ok (.ifCond .ne 6, 3) := by decide +kernel
theorem dX11_write_12 : decode cX11_write 12 = .ok (.bipush (-2), 2) := by decide +kernel
theorem dX11_write_14 : decode cX11_write 14 = .ok (.ireturn, 1) := by decide +kernel
theorem dX11_write_15 : decode cX11_write 15 = .ok (.aload_n 0, 1) := by decide +kernel
theorem dX11_write_16 : decode cX11_write 16 = .ok (.getfield 7, 3) := by decide +kernel
theorem dX11_write_19 : decode cX11_write 19 = .ok (.iload_n 1, 1) := by decide +kernel
theorem dX11_write_20 : decode cX11_write 20 = .ok (.iaload, 1) := by decide +kernel

theorem dX11_write_21 : decode cX11_write 21 = .ok (.iconst (-1), 1) := by decide +kernel
theorem dX11_write_22 : decode cX11_write 22 = .ok (.if_icmp .ne 6, 3) := by decide +kernel
theorem dX11_write_25 : decode cX11_write 25 = .ok (.bipush (-6), 2) := by decide +kernel
theorem dX11_write_27 : decode cX11_write 27 = .ok (.ireturn, 1) := by decide +kernel
theorem dX11_paste_0 : decode cX11_paste 0 = .ok (.aload_n 0, 1) := by decide +kernel
theorem dX11_paste_1 : decode cX11_paste 1 = .ok (.iconst 0, 1) := by decide +kernel
theorem dX11_paste_2 : decode cX11_paste 2 = .ok (.putfield 120, 3) := by decide +kernel
theorem dX11_paste_5 : decode cX11_paste 5 = .ok (.iload_n 1, 1) := by decide +kernel
theorem dX11_paste_6 : decode cX11_paste 6 = .ok (.invokestatic 129, 3) := by decide +kernel
theorem dX11_paste_9 : decode cX11_paste 9 = .ok (.ifCond .eq 10, 3) := by decide +kernel
theorem dX11_paste_12 : decode cX11_paste 12 = .ok (.iload_n 3, 1) := by decide +kernel
theorem dX11_paste_13 : decode cX11_paste 13 = .ok (.invokestatic 129, 3) := by decide +kernel
theorem dX11_paste_16 : decode cX11_paste 16 = .ok (.ifCond .ne 6, 3) := by decide +kernel
theorem dX11_paste_19 : decode cX11_paste 19 = .ok (.bipush (-2), 2) := by decide +kernel
theorem dX11_paste_21 : decode cX11_paste 21 = .ok (.ireturn, 1) := by decide +kernel
theorem dX11_paste_22 : decode cX11_paste 22 = .ok (.aload_n 0, 1) := by decide +kernel
theorem dX11_paste_23 : decode cX11_paste 23 = .ok (.getfield 7, 3) := by decide +kernel
theorem dX11_paste_26 : decode cX11_paste 26 = .ok (.iload_n 1, 1) := by decide +kernel
theorem dX11_paste_27 : decode cX11_paste 27 = .ok (.iaload, 1) := by decide +kernel
theorem dX11_paste_28 : decode cX11_paste 28 = .ok (.iconst (-1), 1) := by decide +kernel
theorem dX11_paste_29 : decode cX11_paste 29 = .ok (.if_icmp .eq 13, 3) := by decide +kernel
theorem dX11_paste_42 : decode cX11_paste 42 = .ok (.bipush (-6), 2) := by decide +kernel
theorem dX11_paste_44 : decode cX11_paste 44 = .ok (.ireturn, 1) := by decide +kernel
theorem dX11_feed_0 : decode cX11_feed 0 = .ok (.aload_n 0, 1) := by decide +kernel
theorem dX11_feed_1 : decode cX11_feed 1 = .ok (.iconst 0, 1) := by decide +kernel
theorem dX11_feed_2 : decode cX11_feed 2 = .ok (.putfield 120, 3) := by decide +kernel
theorem dX11_feed_5 : decode cX11_feed 5 = .ok (.aload_n 0, 1) := by decide +kernel
theorem dX11_feed_6 : decode cX11_feed 6 = .ok (.getfield 137, 3) := by decide +kernel
theorem dX11_feed_9 : decode cX11_feed 9 = .ok (.bipush 20, 2) := by decide +kernel
theorem dX11_feed_11 : decode cX11_feed 11 = .ok (.iadd, 1) := by decide +kernel
theorem dX11_feed_12 : decode cX11_feed 12 = .ok (.sipush 1600, 3) := by decide +kernel
theorem dX11_feed_15 : decode cX11_feed 15 = .ok (.if_icmp .le 5, 3) := by decide +kernel
theorem dX11_feed_20 : decode cX11_feed 20 = .ok (.aload_n 0, 1) := by decide +kernel
theorem dX11_feed_21 : decode cX11_feed 21 = .ok (.iload_n 1, 1) := by decide +kernel
theorem dX11_feed_22 : decode cX11_feed 22 = .ok (.invokevirtual 140, 3) := by decide +kernel
theorem dX11_feed_25 : decode cX11_feed 25 = .ok (.aload_n 0, 1) := by decide +kernel
theorem dX11_feed_26 : decode cX11_feed 26 = .ok (.iload_n 2, 1) := by decide +kernel
theorem dX11_feed_27 : decode cX11_feed 27 = .ok (.invokevirtual 140, 3) := by decide +kernel
theorem dX11_feed_30 : decode cX11_feed 30 = .ok (.aload_n 0, 1) := by decide +kernel
theorem dX11_feed_31 : decode cX11_feed 31 = .ok (.iload_n 3, 1) := by decide +kernel
theorem dX11_feed_32 : decode cX11_feed 32 = .ok (.invokevirtual 140, 3) := by decide +kernel
theorem dX11_feed_35 : decode cX11_feed 35 = .ok (.aload_n 0, 1) := by decide +kernel
theorem dX11_feed_36 : decode cX11_feed 36 = .ok (.iload 4, 2) := by decide +kernel
theorem dX11_feed_38 : decode cX11_feed 38 = .ok (.invokevirtual 140, 3) := by decide +kernel
theorem dX11_feed_41 : decode cX11_feed 41 = .ok (.aload_n 0, 1) := by decide +kernel
theorem dX11_feed_42 : decode cX11_feed 42 = .ok (.iload 5, 2) := by decide +kernel
theorem dX11_feed_44 : decode cX11_feed 44 = .ok (.invokevirtual 140, 3) := by decide +kernel
theorem dX11_feed_47 : decode cX11_feed 47 = .ok (.aload_n 0, 1) := by decide +kernel
theorem dX11_feed_48 : decode cX11_feed 48 = .ok (.getfield 137, 3) := by decide +kernel
theorem dX11_feed_51 : decode cX11_feed 51 = .ok (.ireturn, 1) := by decide +kernel
theorem dX11_four_0 : decode cX11_four 0 = .ok (.bipush 24, 2) := by decide +kernel
theorem dX11_four_2 : decode cX11_four 2 = .ok (.istore_n 2, 1) := by decide +kernel
theorem dX11_four_3 : decode cX11_four 3 = .ok (.iload_n 2, 1) := by decide +kernel
theorem dX11_four_4 : decode cX11_four 4 = .ok (.ifCond .lt 32, 3) := by decide +kernel
theorem dX11_four_7 : decode cX11_four 7 = .ok (.aload_n 0, 1) := by decide +kernel
theorem dX11_four_8 : decode cX11_four 8 = .ok (.getfield 23, 3) := by decide +kernel
theorem dX11_four_11 : decode cX11_four 11 = .ok (.aload_n 0, 1) := by decide +kernel
theorem dX11_four_12 : decode cX11_four 12 = .ok (.getfield 137, 3) := by decide +kernel
theorem dX11_four_15 : decode cX11_four 15 = .ok (.iload_n 1, 1) := by decide +kernel
theorem dX11_four_16 : decode cX11_four 16 = .ok (.iload_n 2, 1) := by decide +kernel
theorem dX11_four_17 : decode cX11_four 17 = .ok (.ishr, 1) := by decide +kernel
theorem dX11_four_18 : decode cX11_four 18 = .ok (.i2b, 1) := by decide +kernel
theorem dX11_four_19 : decode cX11_four 19 = .ok (.bastore, 1) := by decide +kernel
theorem dX11_four_20 : decode cX11_four 20 = .ok (.aload_n 0, 1) := by decide +kernel
theorem dX11_four_21 : decode cX11_four 21 = .ok (.dup, 1) := by decide +kernel
theorem dX11_four_22 : decode cX11_four 22 = .ok (.getfield 137, 3) := by decide +kernel
theorem dX11_four_25 : decode cX11_four 25 = .ok (.iconst 1, 1) := by decide +kernel
theorem dX11_four_26 : decode cX11_four 26 = .ok (.iadd, 1) := by decide +kernel
theorem dX11_four_27 : decode cX11_four 27 = .ok (.putfield 137, 3) := by decide +kernel
theorem dX11_four_30 : decode cX11_four 30 = .ok (.iinc 2 (-8), 3) := by decide +kernel
theorem dX11_four_33 : decode cX11_four 33 = .ok (.goto (-30), 3) := by decide +kernel
theorem dX11_four_36 : decode cX11_four 36 = .ok (.return_, 1) := by decide +kernel
theorem dX11_end_0 : decode cX11_end 0 = .ok (.aload_n 0, 1) := by decide +kernel
theorem dX11_end_1 : decode cX11_end 1 = .ok (.iconst 0, 1) := by decide +kernel
theorem dX11_end_2 : decode cX11_end 2 = .ok (.putfield 120, 3) := by decide +kernel
theorem dX11_end_5 : decode cX11_end 5 = .ok (.iload_n 1, 1) := by decide +kernel
theorem dX11_end_6 : decode cX11_end 6 = .ok (.i2l, 1) := by decide +kernel
theorem dX11_end_7 : decode cX11_end 7 = .ok (.lconst 0, 1) := by decide +kernel
theorem dX11_end_8 : decode cX11_end 8 = .ok (.aload_n 0, 1) := by decide +kernel
theorem dX11_end_9 : decode cX11_end 9 = .ok (.getfield 137, 3) := by decide +kernel
theorem dX11_end_12 : decode cX11_end 12 = .ok (.i2l, 1) := by decide +kernel
theorem dX11_end_13 : decode cX11_end 13 = .ok (.invokestatic 125, 3) := by decide +kernel
theorem dX11_end_16 : decode cX11_end 16 = .ok (.ifCond .ne 5, 3) := by decide +kernel
theorem dX11_end_19 : decode cX11_end 19 = .ok (.iconst (-1), 1) := by decide +kernel
theorem dX11_end_20 : decode cX11_end 20 = .ok (.ireturn, 1) := by decide +kernel
theorem dX11_end_21 : decode cX11_end 21 = .ok (.aload_n 0, 1) := by decide +kernel
theorem dX11_end_22 : decode cX11_end 22 = .ok (.iload_n 1, 1) := by decide +kernel
theorem dX11_end_23 : decode cX11_end 23 = .ok (.putfield 137, 3) := by decide +kernel
theorem dX11_end_26 : decode cX11_end 26 = .ok (.iload_n 1, 1) := by decide +kernel
theorem dX11_end_27 : decode cX11_end 27 = .ok (.ireturn, 1) := by decide +kernel
theorem dX11_isByte_0 : decode cX11_isByte 0 = .ok (.iload_n 1, 1) := by decide +kernel
theorem dX11_isByte_1 : decode cX11_isByte 1 = .ok (.aload_n 0, 1) := by decide +kernel
theorem dX11_isByte_2 : decode cX11_isByte 2 = .ok (.getfield 137, 3) := by decide +kernel
theorem dX11_isByte_5 : decode cX11_isByte 5 = .ok (.if_icmp .ge 27, 3) := by decide +kernel
theorem dX11_isByte_32 : decode cX11_isByte 32 = .ok (.iconst 0, 1) := by decide +kernel
theorem dX11_isByte_33 : decode cX11_isByte 33 = .ok (.ireturn, 1) := by decide +kernel
theorem dX11_next_0 : decode cX11_next 0 = .ok (.aload_n 0, 1) := by decide +kernel
theorem dX11_next_1 : decode cX11_next 1 = .ok (.aload_n 0, 1) := by decide +kernel
theorem dX11_next_2 : decode cX11_next 2 = .ok (.getfield 144, 3) := by decide +kernel
theorem dX11_next_5 : decode cX11_next 5 = .ok (.bipush 32, 2) := by decide +kernel
theorem dX11_next_7 : decode cX11_next 7 = .ok (.bipush 32, 2) := by decide +kernel
theorem dX11_next_9 : decode cX11_next 9 = .ok (.invokevirtual 147, 3) := by decide +kernel
theorem dX11_next_12 : decode cX11_next 12 = .ok (.ifCond .ne 18, 3) := by decide +kernel
theorem dX11_next_15 : decode cX11_next 15 = .ok (.aload_n 0, 1) := by decide +kernel
theorem dX11_next_16 : decode cX11_next 16 = .ok (.aload_n 0, 1) := by decide +kernel
theorem dX11_next_17 : decode cX11_next 17 = .ok (.getfield 144, 3) := by decide +kernel
theorem dX11_next_20 : decode cX11_next 20 = .ok (.bipush 10, 2) := by decide +kernel
theorem dX11_next_22 : decode cX11_next 22 = .ok (.bipush 10, 2) := by decide +kernel
theorem dX11_next_24 : decode cX11_next 24 = .ok (.invokevirtual 147, 3) := by decide +kernel
theorem dX11_next_27 : decode cX11_next 27 = .ok (.ifCond .eq 16, 3) := by decide +kernel
theorem dX11_next_43 : decode cX11_next 43 = .ok (.aload_n 0, 1) := by decide +kernel
theorem dX11_next_44 : decode cX11_next 44 = .ok (.aload_n 0, 1) := by decide +kernel
theorem dX11_next_45 : decode cX11_next 45 = .ok (.getfield 144, 3) := by decide +kernel
theorem dX11_next_48 : decode cX11_next 48 = .ok (.putfield 151, 3) := by decide +kernel
theorem dX11_next_51 : decode cX11_next 51 = .ok (.aload_n 0, 1) := by decide +kernel
theorem dX11_next_52 : decode cX11_next 52 = .ok (.iconst 0, 1) := by decide +kernel
theorem dX11_next_53 : decode cX11_next 53 = .ok (.putfield 154, 3) := by decide +kernel
theorem dX11_next_56 : decode cX11_next 56 = .ok (.aload_n 0, 1) := by decide +kernel
theorem dX11_next_57 : decode cX11_next 57 = .ok (.lconst 0, 1) := by decide +kernel
theorem dX11_next_58 : decode cX11_next 58 = .ok (.putfield 157, 3) := by decide +kernel
theorem dX11_next_61 : decode cX11_next 61 = .ok (.aload_n 0, 1) := by decide +kernel
theorem dX11_next_62 : decode cX11_next 62 = .ok (.getfield 144, 3) := by decide +kernel
theorem dX11_next_65 : decode cX11_next 65 = .ok (.aload_n 0, 1) := by decide +kernel
theorem dX11_next_66 : decode cX11_next 66 = .ok (.getfield 137, 3) := by decide +kernel
theorem dX11_next_69 : decode cX11_next 69 = .ok (.if_icmp .ne 11, 3) := by decide +kernel
theorem dX11_next_72 : decode cX11_next 72 = .ok (.aload_n 0, 1) := by decide +kernel
theorem dX11_next_73 : decode cX11_next 73 = .ok (.iconst 0, 1) := by decide +kernel
theorem dX11_next_74 : decode cX11_next 74 = .ok (.putfield 161, 3) := by decide +kernel
theorem dX11_next_77 : decode cX11_next 77 = .ok (.goto 230, 3) := by decide +kernel
theorem dX11_next_307 : decode cX11_next 307 = .ok (.return_, 1) := by decide +kernel
theorem dX11_isGood_0 : decode cX11_isGood 0 = .ok (.aload_n 0, 1) := by decide +kernel
theorem dX11_isGood_1 : decode cX11_isGood 1 = .ok (.getfield 172, 3) := by decide +kernel
theorem dX11_isGood_4 : decode cX11_isGood 4 = .ok (.ifCond .ne 7, 3) := by decide +kernel
theorem dX11_isGood_7 : decode cX11_isGood 7 = .ok (.iconst 1, 1) := by decide +kernel
theorem dX11_isGood_8 : decode cX11_isGood 8 = .ok (.goto 4, 3) := by decide +kernel
theorem dX11_isGood_12 : decode cX11_isGood 12 = .ok (.ireturn, 1) := by decide +kernel
theorem dX11_begins_0 : decode cX11_begins 0 = .ok (.aload_n 0, 1) := by decide +kernel
theorem dX11_begins_1 : decode cX11_begins 1 = .ok (.iconst 0, 1) := by decide +kernel
theorem dX11_begins_2 : decode cX11_begins 2 = .ok (.putfield 172, 3) := by decide +kernel
theorem dX11_begins_5 : decode cX11_begins 5 = .ok (.aload_n 0, 1) := by decide +kernel
theorem dX11_begins_6 : decode cX11_begins 6 = .ok (.iconst (-1), 1) := by decide +kernel
theorem dX11_begins_7 : decode cX11_begins 7 = .ok (.putfield 175, 3) := by decide +kernel
theorem dX11_begins_10 : decode cX11_begins 10 = .ok (.aload_n 0, 1) := by decide +kernel
theorem dX11_begins_11 : decode cX11_begins 11 = .ok (.iconst 0, 1) := by decide +kernel
theorem dX11_begins_12 : decode cX11_begins 12 = .ok (.putfield 144, 3) := by decide +kernel
theorem dX11_begins_15 : decode cX11_begins 15 = .ok (.aload_n 0, 1) := by decide +kernel
theorem dX11_begins_16 : decode cX11_begins 16 = .ok (.invokevirtual 182, 3) := by decide +kernel
theorem dX11_begins_19 : decode cX11_begins 19 = .ok (.return_, 1) := by decide +kernel
theorem dX11_isOver_0 : decode cX11_isOver 0 = .ok (.aload_n 0, 1) := by decide +kernel
theorem dX11_isOver_1 : decode cX11_isOver 1 = .ok (.iconst 0, 1) := by decide +kernel
theorem dX11_isOver_2 : decode cX11_isOver 2 = .ok (.putfield 137, 3) := by decide +kernel
theorem dX11_isOver_5 : decode cX11_isOver 5 = .ok (.aload_n 0, 1) := by decide +kernel
theorem dX11_isOver_6 : decode cX11_isOver 6 = .ok (.aload_n 0, 1) := by decide +kernel
theorem dX11_isOver_7 : decode cX11_isOver 7 = .ok (.getfield 172, 3) := by decide +kernel
theorem dX11_isOver_10 : decode cX11_isOver 10 = .ok (.putfield 199, 3) := by decide +kernel
theorem dX11_isOver_13 : decode cX11_isOver 13 = .ok (.aload_n 0, 1) := by decide +kernel
theorem dX11_isOver_14 : decode cX11_isOver 14 = .ok (.aload_n 0, 1) := by decide +kernel
theorem dX11_isOver_15 : decode cX11_isOver 15 = .ok (.getfield 172, 3) := by decide +kernel
theorem dX11_isOver_18 : decode cX11_isOver 18 = .ok (.ifCond .ne 7, 3) := by decide +kernel
theorem dX11_isOver_21 : decode cX11_isOver 21 = .ok (.iconst (-1), 1) := by decide +kernel
theorem dX11_isOver_22 : decode cX11_isOver 22 = .ok (.goto 7, 3) := by decide +kernel
theorem dX11_isOver_29 : decode cX11_isOver 29 = .ok (.putfield 27, 3) := by decide +kernel
theorem dX11_isOver_32 : decode cX11_isOver 32 = .ok (.return_, 1) := by decide +kernel
theorem dX11_fault_0 : decode cX11_fault 0 = .ok (.aload_n 0, 1) := by decide +kernel
theorem dX11_fault_1 : decode cX11_fault 1 = .ok (.iconst 0, 1) := by decide +kernel
theorem dX11_fault_2 : decode cX11_fault 2 = .ok (.putfield 120, 3) := by decide +kernel
theorem dX11_fault_5 : decode cX11_fault 5 = .ok (.iload_n 1, 1) := by decide +kernel
theorem dX11_fault_6 : decode cX11_fault 6 = .ok (.ifCond .ne 10, 3) := by decide +kernel
theorem dX11_fault_9 : decode cX11_fault 9 = .ok (.aload_n 0, 1) := by decide +kernel
theorem dX11_fault_10 : decode cX11_fault 10 = .ok (.getfield 199, 3) := by decide +kernel
theorem dX11_fault_13 : decode cX11_fault 13 = .ok (.goto 16, 3) := by decide +kernel
theorem dX11_fault_16 : decode cX11_fault 16 = .ok (.iload_n 1, 1) := by decide +kernel
theorem dX11_fault_17 : decode cX11_fault 17 = .ok (.iconst 1, 1) := by decide +kernel
theorem dX11_fault_18 : decode cX11_fault 18 = .ok (.if_icmp .ne 10, 3) := by decide +kernel
theorem dX11_fault_21 : decode cX11_fault 21 = .ok (.aload_n 0, 1) := by decide +kernel
theorem dX11_fault_22 : decode cX11_fault 22 = .ok (.getfield 27, 3) := by decide +kernel
theorem dX11_fault_25 : decode cX11_fault 25 = .ok (.goto 4, 3) := by decide +kernel
theorem dX11_fault_28 : decode cX11_fault 28 = .ok (.iconst (-1), 1) := by decide +kernel
theorem dX11_fault_29 : decode cX11_fault 29 = .ok (.ireturn, 1) := by decide +kernel
theorem dX11_clears_0 : decode cX11_clears 0 = .ok (.aload_n 0, 1) := by decide +kernel
theorem dX11_clears_1 : decode cX11_clears 1 = .ok (.getfield 31, 3) := by decide +kernel
theorem dX11_clears_4 : decode cX11_clears 4 = .ok (.iconst 4, 1) := by decide +kernel
theorem dX11_clears_5 : decode cX11_clears 5 = .ok (.iconst 0, 1) := by decide +kernel
theorem dX11_clears_6 : decode cX11_clears 6 = .ok (.iastore, 1) := by decide +kernel
theorem dX11_clears_7 : decode cX11_clears 7 = .ok (.aload_n 0, 1) := by decide +kernel
theorem dX11_clears_8 : decode cX11_clears 8 = .ok (.getfield 34, 3) := by decide +kernel
theorem dX11_clears_11 : decode cX11_clears 11 = .ok (.iconst 4, 1) := by decide +kernel
theorem dX11_clears_12 : decode cX11_clears 12 = .ok (.iconst 0, 1) := by decide +kernel
theorem dX11_clears_13 : decode cX11_clears 13 = .ok (.iastore, 1) := by decide +kernel
theorem dX11_clears_14 : decode cX11_clears 14 = .ok (.aload_n 0, 1) := by decide +kernel
theorem dX11_clears_15 : decode cX11_clears 15 = .ok (.getfield 37, 3) := by decide +kernel
theorem dX11_clears_18 : decode cX11_clears 18 = .ok (.iconst 4, 1) := by decide +kernel
theorem dX11_clears_19 : decode cX11_clears 19 = .ok (.iconst 0, 1) := by decide +kernel
theorem dX11_clears_20 : decode cX11_clears 20 = .ok (.iastore, 1) := by decide +kernel
theorem dX11_clears_21 : decode cX11_clears 21 = .ok (.iconst 0, 1) := by decide +kernel
theorem dX11_clears_22 : decode cX11_clears 22 = .ok (.istore_n 1, 1) := by decide +kernel
theorem dX11_clears_23 : decode cX11_clears 23 = .ok (.iload_n 1, 1) := by decide +kernel
theorem dX11_clears_24 : decode cX11_clears 24 = .ok (.bipush 7, 2) := by decide +kernel
theorem dX11_clears_26 : decode cX11_clears 26 = .ok (.if_icmp .ge 19, 3) := by decide +kernel
theorem dX11_clears_29 : decode cX11_clears 29 = .ok (.aload_n 0, 1) := by decide +kernel
theorem dX11_clears_30 : decode cX11_clears 30 = .ok (.getfield 40, 3) := by decide +kernel
theorem dX11_clears_33 : decode cX11_clears 33 = .ok (.bipush 28, 2) := by decide +kernel
theorem dX11_clears_35 : decode cX11_clears 35 = .ok (.iload_n 1, 1) := by decide +kernel
theorem dX11_clears_36 : decode cX11_clears 36 = .ok (.iadd, 1) := by decide +kernel
theorem dX11_clears_37 : decode cX11_clears 37 = .ok (.iconst 0, 1) := by decide +kernel
theorem dX11_clears_38 : decode cX11_clears 38 = .ok (.iastore, 1) := by decide +kernel
theorem dX11_clears_39 : decode cX11_clears 39 = .ok (.iinc 1 1, 3) := by decide +kernel
theorem dX11_clears_42 : decode cX11_clears 42 = .ok (.goto (-19), 3) := by decide +kernel
theorem dX11_clears_45 : decode cX11_clears 45 = .ok (.return_, 1) := by decide +kernel
theorem dX11_line_0 : decode cX11_line 0 = .ok (.aload_n 0, 1) := by decide +kernel
theorem dX11_line_1 : decode cX11_line 1 = .ok (.iconst 0, 1) := by decide +kernel
theorem dX11_line_2 : decode cX11_line 2 = .ok (.putfield 120, 3) := by decide +kernel
theorem dX11_line_5 : decode cX11_line 5 = .ok (.aload_n 0, 1) := by decide +kernel
theorem dX11_line_6 : decode cX11_line 6 = .ok (.invokevirtual 265, 3) := by decide +kernel
theorem dX11_line_9 : decode cX11_line 9 = .ok (.aload_n 0, 1) := by decide +kernel
theorem dX11_line_10 : decode cX11_line 10 = .ok (.invokevirtual 268, 3) := by decide +kernel
theorem dX11_line_13 : decode cX11_line 13 = .ok (.aload_n 0, 1) := by decide +kernel
theorem dX11_line_14 : decode cX11_line 14 = .ok (.invokevirtual 215, 3) := by decide +kernel
theorem dX11_line_17 : decode cX11_line 17 = .ok (.ifCond .eq 75, 3) := by decide +kernel
theorem dX11_line_20 : decode cX11_line 20 = .ok (.aload_n 0, 1) := by decide +kernel
theorem dX11_line_21 : decode cX11_line 21 = .ok (.getfield 161, 3) := by decide +kernel
theorem dX11_line_24 : decode cX11_line 24 = .ok (.ifCond .eq 68, 3) := by decide +kernel
theorem dX11_line_92 : decode cX11_line 92 = .ok (.aload_n 0, 1) := by decide +kernel
theorem dX11_line_93 : decode cX11_line 93 = .ok (.invokevirtual 279, 3) := by decide +kernel
theorem dX11_line_96 : decode cX11_line 96 = .ok (.aload_n 0, 1) := by decide +kernel
theorem dX11_line_97 : decode cX11_line 97 = .ok (.getfield 172, 3) := by decide +kernel
theorem dX11_line_100 : decode cX11_line 100 = .ok (.ifCond .eq 6, 3) := by decide +kernel
theorem dX11_line_106 : decode cX11_line 106 = .ok (.aload_n 0, 1) := by decide +kernel
theorem dX11_line_107 : decode cX11_line 107 = .ok (.iconst 4, 1) := by decide +kernel
theorem dX11_line_108 : decode cX11_line 108 = .ok (.iconst 0, 1) := by decide +kernel
theorem dX11_line_109 : decode cX11_line 109 = .ok (.invokevirtual 282, 3) := by decide +kernel
theorem dX11_line_112 : decode cX11_line 112 = .ok (.aload_n 0, 1) := by decide +kernel
theorem dX11_line_113 : decode cX11_line 113 = .ok (.getfield 31, 3) := by decide +kernel
theorem dX11_line_116 : decode cX11_line 116 = .ok (.iconst 0, 1) := by decide +kernel
theorem dX11_line_117 : decode cX11_line 117 = .ok (.iaload, 1) := by decide +kernel
theorem dX11_line_118 : decode cX11_line 118 = .ok (.ireturn, 1) := by decide +kernel
theorem dX11_copyRow_0 : decode cX11_copyRow 0 = .ok (.iconst 0, 1) := by decide +kernel
theorem dX11_copyRow_1 : decode cX11_copyRow 1 = .ok (.istore 4, 2) := by decide +kernel
theorem dX11_copyRow_3 : decode cX11_copyRow 3 = .ok (.iload 4, 2) := by decide +kernel
theorem dX11_copyRow_5 : decode cX11_copyRow 5 = .ok (.iload_n 1, 1) := by decide +kernel
theorem dX11_copyRow_6 : decode cX11_copyRow 6 = .ok (.if_icmp .ge 25, 3) := by decide +kernel
theorem dX11_copyRow_9 : decode cX11_copyRow 9 = .ok (.aload_n 0, 1) := by decide +kernel
theorem dX11_copyRow_10 : decode cX11_copyRow 10 = .ok (.iload_n 1, 1) := by decide +kernel
theorem dX11_copyRow_11 : decode cX11_copyRow 11 = .ok (.iload_n 3, 1) := by decide +kernel
theorem dX11_copyRow_12 : decode cX11_copyRow 12 = .ok (.imul, 1) := by decide +kernel
theorem dX11_copyRow_13 : decode cX11_copyRow 13 = .ok (.iload 4, 2) := by decide +kernel
theorem dX11_copyRow_15 : decode cX11_copyRow 15 = .ok (.iadd, 1) := by decide +kernel
theorem dX11_copyRow_16 : decode cX11_copyRow 16 = .ok (.aload_n 0, 1) := by decide +kernel
theorem dX11_copyRow_17 : decode cX11_copyRow 17 = .ok (.iload_n 1, 1) := by decide +kernel
theorem dX11_copyRow_18 : decode cX11_copyRow 18 = .ok (.iload_n 2, 1) := by decide +kernel
theorem dX11_copyRow_19 : decode cX11_copyRow 19 = .ok (.imul, 1) := by decide +kernel
theorem dX11_copyRow_20 : decode cX11_copyRow 20 = .ok (.iload 4, 2) := by decide +kernel
theorem dX11_copyRow_22 : decode cX11_copyRow 22 = .ok (.iadd, 1) := by decide +kernel
theorem dX11_copyRow_23 : decode cX11_copyRow 23 = .ok (.iaload, 1) := by decide +kernel
theorem dX11_copyRow_24 : decode cX11_copyRow 24 = .ok (.iastore, 1) := by decide +kernel
theorem dX11_copyRow_25 : decode cX11_copyRow 25 = .ok (.iinc 4 1, 3) := by decide +kernel
theorem dX11_copyRow_28 : decode cX11_copyRow 28 = .ok (.goto (-25), 3) := by decide +kernel
theorem dX11_copyRow_31 : decode cX11_copyRow 31 = .ok (.return_, 1) := by decide +kernel
theorem dX11_copyLine_0 : decode cX11_copyLine 0 = .ok (.aload_n 0, 1) := by decide +kernel
theorem dX11_copyLine_1 : decode cX11_copyLine 1 = .ok (.getfield 31, 3) := by decide +kernel
theorem dX11_copyLine_4 : decode cX11_copyLine 4 = .ok (.iconst 1, 1) := by decide +kernel
theorem dX11_copyLine_5 : decode cX11_copyLine 5 = .ok (.iload_n 1, 1) := by decide +kernel
theorem dX11_copyLine_6 : decode cX11_copyLine 6 = .ok (.iload_n 2, 1) := by decide +kernel
theorem dX11_copyLine_7 : decode cX11_copyLine 7 = .ok (.invokestatic 286, 3) := by decide +kernel
theorem dX11_copyLine_10 : decode cX11_copyLine 10 = .ok (.aload_n 0, 1) := by decide +kernel
theorem dX11_copyLine_11 : decode cX11_copyLine 11 = .ok (.getfield 34, 3) := by decide +kernel
theorem dX11_copyLine_14 : decode cX11_copyLine 14 = .ok (.iconst 1, 1) := by decide +kernel
theorem dX11_copyLine_15 : decode cX11_copyLine 15 = .ok (.iload_n 1, 1) := by decide +kernel
theorem dX11_copyLine_16 : decode cX11_copyLine 16 = .ok (.iload_n 2, 1) := by decide +kernel
theorem dX11_copyLine_17 : decode cX11_copyLine 17 = .ok (.invokestatic 286, 3) := by decide +kernel
theorem dX11_copyLine_20 : decode cX11_copyLine 20 = .ok (.aload_n 0, 1) := by decide +kernel
theorem dX11_copyLine_21 : decode cX11_copyLine 21 = .ok (.getfield 37, 3) := by decide +kernel
theorem dX11_copyLine_24 : decode cX11_copyLine 24 = .ok (.iconst 1, 1) := by decide +kernel
theorem dX11_copyLine_25 : decode cX11_copyLine 25 = .ok (.iload_n 1, 1) := by decide +kernel
theorem dX11_copyLine_26 : decode cX11_copyLine 26 = .ok (.iload_n 2, 1) := by decide +kernel
theorem dX11_copyLine_27 : decode cX11_copyLine 27 = .ok (.invokestatic 286, 3) := by decide +kernel
theorem dX11_copyLine_30 : decode cX11_copyLine 30 = .ok (.aload_n 0, 1) := by decide +kernel
theorem dX11_copyLine_31 : decode cX11_copyLine 31 = .ok (.getfield 40, 3) := by decide +kernel
theorem dX11_copyLine_34 : decode cX11_copyLine 34 = .ok (.bipush 7, 2) := by decide +kernel
theorem dX11_copyLine_36 : decode cX11_copyLine 36 = .ok (.iload_n 1, 1) := by decide +kernel
theorem dX11_copyLine_37 : decode cX11_copyLine 37 = .ok (.iload_n 2, 1) := by decide +kernel
theorem dX11_copyLine_38 : decode cX11_copyLine 38 = .ok (.invokestatic 286, 3) := by decide +kernel
theorem dX11_copyLine_41 : decode cX11_copyLine 41 = .ok (.aload_n 0, 1) := by decide +kernel
theorem dX11_copyLine_42 : decode cX11_copyLine 42 = .ok (.getfield 43, 3) := by decide +kernel
theorem dX11_copyLine_45 : decode cX11_copyLine 45 = .ok (.bipush 16, 2) := by decide +kernel
theorem dX11_copyLine_47 : decode cX11_copyLine 47 = .ok (.iload_n 1, 1) := by decide +kernel
theorem dX11_copyLine_48 : decode cX11_copyLine 48 = .ok (.iload_n 2, 1) := by decide +kernel
theorem dX11_copyLine_49 : decode cX11_copyLine 49 = .ok (.invokestatic 286, 3) := by decide +kernel
theorem dX11_copyLine_52 : decode cX11_copyLine 52 = .ok (.aload_n 0, 1) := by decide +kernel
theorem dX11_copyLine_53 : decode cX11_copyLine 53 = .ok (.getfield 46, 3) := by decide +kernel
theorem dX11_copyLine_56 : decode cX11_copyLine 56 = .ok (.bipush 18, 2) := by decide +kernel
theorem dX11_copyLine_58 : decode cX11_copyLine 58 = .ok (.iload_n 1, 1) := by decide +kernel
theorem dX11_copyLine_59 : decode cX11_copyLine 59 = .ok (.iload_n 2, 1) := by decide +kernel
theorem dX11_copyLine_60 : decode cX11_copyLine 60 = .ok (.invokestatic 286, 3) := by decide +kernel
theorem dX11_copyLine_63 : decode cX11_copyLine 63 = .ok (.aload_n 0, 1) := by decide +kernel
theorem dX11_copyLine_64 : decode cX11_copyLine 64 = .ok (.getfield 49, 3) := by decide +kernel
theorem dX11_copyLine_67 : decode cX11_copyLine 67 = .ok (.bipush 12, 2) := by decide +kernel
theorem dX11_copyLine_69 : decode cX11_copyLine 69 = .ok (.iload_n 1, 1) := by decide +kernel
theorem dX11_copyLine_70 : decode cX11_copyLine 70 = .ok (.iload_n 2, 1) := by decide +kernel
theorem dX11_copyLine_71 : decode cX11_copyLine 71 = .ok (.invokestatic 286, 3) := by decide +kernel
theorem dX11_copyLine_74 : decode cX11_copyLine 74 = .ok (.aload_n 0, 1) := by decide +kernel
theorem dX11_copyLine_75 : decode cX11_copyLine 75 = .ok (.getfield 52, 3) := by decide +kernel
theorem dX11_copyLine_78 : decode cX11_copyLine 78 = .ok (.bipush 12, 2) := by decide +kernel
theorem dX11_copyLine_80 : decode cX11_copyLine 80 = .ok (.iload_n 1, 1) := by decide +kernel
theorem dX11_copyLine_81 : decode cX11_copyLine 81 = .ok (.iload_n 2, 1) := by decide +kernel
theorem dX11_copyLine_82 : decode cX11_copyLine 82 = .ok (.invokestatic 286, 3) := by decide +kernel
theorem dX11_copyLine_85 : decode cX11_copyLine 85 = .ok (.aload_n 0, 1) := by decide +kernel
theorem dX11_copyLine_86 : decode cX11_copyLine 86 = .ok (.getfield 55, 3) := by decide +kernel
theorem dX11_copyLine_89 : decode cX11_copyLine 89 = .ok (.bipush 20, 2) := by decide +kernel
theorem dX11_copyLine_91 : decode cX11_copyLine 91 = .ok (.iload_n 1, 1) := by decide +kernel
theorem dX11_copyLine_92 : decode cX11_copyLine 92 = .ok (.iload_n 2, 1) := by decide +kernel
theorem dX11_copyLine_93 : decode cX11_copyLine 93 = .ok (.invokestatic 286, 3) := by decide +kernel
theorem dX11_copyLine_96 : decode cX11_copyLine 96 = .ok (.aload_n 0, 1) := by decide +kernel
theorem dX11_copyLine_97 : decode cX11_copyLine 97 = .ok (.getfield 58, 3) := by decide +kernel
theorem dX11_copyLine_100 : decode cX11_copyLine 100 = .ok (.bipush 15, 2) := by decide +kernel
theorem dX11_copyLine_102 : decode cX11_copyLine 102 = .ok (.iload_n 1, 1) := by decide +kernel
theorem dX11_copyLine_103 : decode cX11_copyLine 103 = .ok (.iload_n 2, 1) := by decide +kernel
theorem dX11_copyLine_104 : decode cX11_copyLine 104 = .ok (.invokestatic 286, 3) := by decide +kernel
theorem dX11_copyLine_107 : decode cX11_copyLine 107 = .ok (.aload_n 0, 1) := by decide +kernel
theorem dX11_copyLine_108 : decode cX11_copyLine 108 = .ok (.getfield 61, 3) := by decide +kernel
theorem dX11_copyLine_111 : decode cX11_copyLine 111 = .ok (.bipush 80, 2) := by decide +kernel
theorem dX11_copyLine_113 : decode cX11_copyLine 113 = .ok (.iload_n 1, 1) := by decide +kernel
theorem dX11_copyLine_114 : decode cX11_copyLine 114 = .ok (.iload_n 2, 1) := by decide +kernel
theorem dX11_copyLine_115 : decode cX11_copyLine 115 = .ok (.invokestatic 286, 3) := by decide +kernel
theorem dX11_copyLine_118 : decode cX11_copyLine 118 = .ok (.return_, 1) := by decide +kernel
theorem dX11_isLine_0 : decode cX11_isLine 0 = .ok (.aload_n 0, 1) := by decide +kernel
theorem dX11_isLine_1 : decode cX11_isLine 1 = .ok (.getfield 34, 3) := by decide +kernel
theorem dX11_isLine_4 : decode cX11_isLine 4 = .ok (.iconst 0, 1) := by decide +kernel
theorem dX11_isLine_5 : decode cX11_isLine 5 = .ok (.iaload, 1) := by decide +kernel
theorem dX11_isLine_6 : decode cX11_isLine 6 = .ok (.ifCond .le 7, 3) := by decide +kernel
theorem dX11_isLine_13 : decode cX11_isLine 13 = .ok (.iconst 0, 1) := by decide +kernel
theorem dX11_isLine_14 : decode cX11_isLine 14 = .ok (.ireturn, 1) := by decide +kernel
theorem dX11_isYard_0 : decode cX11_isYard 0 = .ok (.aload_n 0, 1) := by decide +kernel
theorem dX11_isYard_1 : decode cX11_isYard 1 = .ok (.invokevirtual 290, 3) := by decide +kernel
theorem dX11_isYard_4 : decode cX11_isYard 4 = .ok (.ifCond .eq 23, 3) := by decide +kernel
theorem dX11_isYard_27 : decode cX11_isYard 27 = .ok (.iconst 0, 1) := by decide +kernel
theorem dX11_isYard_28 : decode cX11_isYard 28 = .ok (.ireturn, 1) := by decide +kernel
theorem dX11_isKind_0 : decode cX11_isKind 0 = .ok (.iload_n 1, 1) := by decide +kernel
theorem dX11_isKind_1 : decode cX11_isKind 1 = .ok (.i2l, 1) := by decide +kernel
theorem dX11_isKind_2 : decode cX11_isKind 2 = .ok (.lconst 0, 1) := by decide +kernel
theorem dX11_isKind_3 : decode cX11_isKind 3 = .ok (.aload_n 0, 1) := by decide +kernel
theorem dX11_isKind_4 : decode cX11_isKind 4 = .ok (.getfield 40, 3) := by decide +kernel
theorem dX11_isKind_7 : decode cX11_isKind 7 = .ok (.iconst 4, 1) := by decide +kernel
theorem dX11_isKind_8 : decode cX11_isKind 8 = .ok (.iaload, 1) := by decide +kernel
theorem dX11_isKind_9 : decode cX11_isKind 9 = .ok (.iconst 1, 1) := by decide +kernel
theorem dX11_isKind_10 : decode cX11_isKind 10 = .ok (.isub, 1) := by decide +kernel
theorem dX11_isKind_11 : decode cX11_isKind 11 = .ok (.i2l, 1) := by decide +kernel
theorem dX11_isKind_12 : decode cX11_isKind 12 = .ok (.invokestatic 125, 3) := by decide +kernel
theorem dX11_isKind_15 : decode cX11_isKind 15 = .ok (.ireturn, 1) := by decide +kernel
theorem dX11_isPlatform_0 : decode cX11_isPlatform 0 = .ok (.iload_n 1, 1) := by decide +kernel
theorem dX11_isPlatform_1 : decode cX11_isPlatform 1 = .ok (.i2l, 1) := by decide +kernel
theorem dX11_isPlatform_2 : decode cX11_isPlatform 2 = .ok (.lconst 0, 1) := by decide +kernel
theorem dX11_isPlatform_3 : decode cX11_isPlatform 3 = .ok (.aload_n 0, 1) := by decide +kernel
theorem dX11_isPlatform_4 : decode cX11_isPlatform 4 = .ok (.getfield 40, 3) := by decide +kernel
theorem dX11_isPlatform_7 : decode cX11_isPlatform 7 = .ok (.iconst 3, 1) := by decide +kernel
theorem dX11_isPlatform_8 : decode cX11_isPlatform 8 = .ok (.iaload, 1) := by decide +kernel
theorem dX11_isPlatform_9 : decode cX11_isPlatform 9 = .ok (.iconst 1, 1) := by decide +kernel
theorem dX11_isPlatform_10 : decode cX11_isPlatform 10 = .ok (.isub, 1) := by decide +kernel
theorem dX11_isPlatform_11 : decode cX11_isPlatform 11 = .ok (.i2l, 1) := by decide +kernel
theorem dX11_isPlatform_12 : decode cX11_isPlatform 12 = .ok (.invokestatic 125, 3) := by decide +kernel
theorem dX11_isPlatform_15 : decode cX11_isPlatform 15 = .ok (.ireturn, 1) := by decide +kernel
theorem dX11_isTrain_0 : decode cX11_isTrain 0 = .ok (.iload_n 1, 1) := by decide +kernel
theorem dX11_isTrain_1 : decode cX11_isTrain 1 = .ok (.i2l, 1) := by decide +kernel
theorem dX11_isTrain_2 : decode cX11_isTrain 2 = .ok (.lconst 0, 1) := by decide +kernel
theorem dX11_isTrain_3 : decode cX11_isTrain 3 = .ok (.aload_n 0, 1) := by decide +kernel
theorem dX11_isTrain_4 : decode cX11_isTrain 4 = .ok (.getfield 40, 3) := by decide +kernel
theorem dX11_isTrain_7 : decode cX11_isTrain 7 = .ok (.iconst 5, 1) := by decide +kernel
theorem dX11_isTrain_8 : decode cX11_isTrain 8 = .ok (.iaload, 1) := by decide +kernel
theorem dX11_isTrain_9 : decode cX11_isTrain 9 = .ok (.iconst 1, 1) := by decide +kernel
theorem dX11_isTrain_10 : decode cX11_isTrain 10 = .ok (.isub, 1) := by decide +kernel
theorem dX11_isTrain_11 : decode cX11_isTrain 11 = .ok (.i2l, 1) := by decide +kernel
theorem dX11_isTrain_12 : decode cX11_isTrain 12 = .ok (.invokestatic 125, 3) := by decide +kernel
theorem dX11_isTrain_15 : decode cX11_isTrain 15 = .ok (.ireturn, 1) := by decide +kernel
theorem dX11_isCoach_0 : decode cX11_isCoach 0 = .ok (.iload_n 1, 1) := by decide +kernel
theorem dX11_isCoach_1 : decode cX11_isCoach 1 = .ok (.i2l, 1) := by decide +kernel
theorem dX11_isCoach_2 : decode cX11_isCoach 2 = .ok (.lconst 0, 1) := by decide +kernel
theorem dX11_isCoach_3 : decode cX11_isCoach 3 = .ok (.aload_n 0, 1) := by decide +kernel
theorem dX11_isCoach_4 : decode cX11_isCoach 4 = .ok (.getfield 40, 3) := by decide +kernel
theorem dX11_isCoach_7 : decode cX11_isCoach 7 = .ok (.bipush 6, 2) := by decide +kernel
theorem dX11_isCoach_9 : decode cX11_isCoach 9 = .ok (.iaload, 1) := by decide +kernel
theorem dX11_isCoach_10 : decode cX11_isCoach 10 = .ok (.iconst 1, 1) := by decide +kernel
theorem dX11_isCoach_11 : decode cX11_isCoach 11 = .ok (.isub, 1) := by decide +kernel
theorem dX11_isCoach_12 : decode cX11_isCoach 12 = .ok (.i2l, 1) := by decide +kernel
theorem dX11_isCoach_13 : decode cX11_isCoach 13 = .ok (.invokestatic 125, 3) := by decide +kernel
theorem dX11_isCoach_16 : decode cX11_isCoach 16 = .ok (.ireturn, 1) := by decide +kernel
theorem dX11_yard__0 : decode cX11_yard_ 0 = .ok (.aload_n 0, 1) := by decide +kernel
theorem dX11_yard__1 : decode cX11_yard_ 1 = .ok (.iconst 0, 1) := by decide +kernel
theorem dX11_yard__2 : decode cX11_yard_ 2 = .ok (.putfield 120, 3) := by decide +kernel
theorem dX11_yard__5 : decode cX11_yard_ 5 = .ok (.aload_n 0, 1) := by decide +kernel
theorem dX11_yard__6 : decode cX11_yard_ 6 = .ok (.iload_n 1, 1) := by decide +kernel
theorem dX11_yard__7 : decode cX11_yard_ 7 = .ok (.invokevirtual 293, 3) := by decide +kernel
theorem dX11_yard__10 : decode cX11_yard_ 10 = .ok (.ifCond .eq 15, 3) := by decide +kernel
theorem dX11_yard__25 : decode cX11_yard_ 25 = .ok (.bipush (-2), 2) := by decide +kernel
theorem dX11_yard__27 : decode cX11_yard_ 27 = .ok (.goto 36, 3) := by decide +kernel
theorem dX11_yard__63 : decode cX11_yard_ 63 = .ok (.ireturn, 1) := by decide +kernel
theorem dX11_coach_0 : decode cX11_coach 0 = .ok (.aload_n 0, 1) := by decide +kernel
theorem dX11_coach_1 : decode cX11_coach 1 = .ok (.iconst 0, 1) := by decide +kernel
theorem dX11_coach_2 : decode cX11_coach 2 = .ok (.putfield 120, 3) := by decide +kernel
theorem dX11_coach_5 : decode cX11_coach 5 = .ok (.aload_n 0, 1) := by decide +kernel
theorem dX11_coach_6 : decode cX11_coach 6 = .ok (.iload_n 1, 1) := by decide +kernel
theorem dX11_coach_7 : decode cX11_coach 7 = .ok (.invokevirtual 307, 3) := by decide +kernel
theorem dX11_coach_10 : decode cX11_coach 10 = .ok (.ifCond .eq 28, 3) := by decide +kernel
theorem dX11_coach_38 : decode cX11_coach 38 = .ok (.bipush (-2), 2) := by decide +kernel
theorem dX11_coach_40 : decode cX11_coach 40 = .ok (.ireturn, 1) := by decide +kernel
theorem dX11_rain_0 : decode cX11_rain 0 = .ok (.aload_n 0, 1) := by decide +kernel
theorem dX11_rain_1 : decode cX11_rain 1 = .ok (.iconst 0, 1) := by decide +kernel
theorem dX11_rain_2 : decode cX11_rain 2 = .ok (.putfield 120, 3) := by decide +kernel
theorem dX11_rain_5 : decode cX11_rain 5 = .ok (.aload_n 0, 1) := by decide +kernel
theorem dX11_rain_6 : decode cX11_rain 6 = .ok (.invokevirtual 290, 3) := by decide +kernel
theorem dX11_rain_9 : decode cX11_rain 9 = .ok (.ifCond .eq 15, 3) := by decide +kernel
theorem dX11_rain_24 : decode cX11_rain 24 = .ok (.bipush (-2), 2) := by decide +kernel
theorem dX11_rain_26 : decode cX11_rain 26 = .ok (.ireturn, 1) := by decide +kernel
theorem dX11_post_0 : decode cX11_post 0 = .ok (.aload_n 0, 1) := by decide +kernel
theorem dX11_post_1 : decode cX11_post 1 = .ok (.iconst 0, 1) := by decide +kernel
theorem dX11_post_2 : decode cX11_post 2 = .ok (.putfield 120, 3) := by decide +kernel
theorem dX11_post_5 : decode cX11_post 5 = .ok (.aload_n 0, 1) := by decide +kernel
theorem dX11_post_6 : decode cX11_post 6 = .ok (.iload_n 1, 1) := by decide +kernel
theorem dX11_post_7 : decode cX11_post 7 = .ok (.invokevirtual 307, 3) := by decide +kernel
theorem dX11_post_10 : decode cX11_post 10 = .ok (.ifCond .eq 11, 3) := by decide +kernel
theorem dX11_post_21 : decode cX11_post 21 = .ok (.bipush (-2), 2) := by decide +kernel
theorem dX11_post_23 : decode cX11_post 23 = .ok (.ireturn, 1) := by decide +kernel
theorem dX11_shift_0 : decode cX11_shift 0 = .ok (.aload_n 0, 1) := by decide +kernel
theorem dX11_shift_1 : decode cX11_shift 1 = .ok (.iconst 0, 1) := by decide +kernel
theorem dX11_shift_2 : decode cX11_shift 2 = .ok (.putfield 120, 3) := by decide +kernel
theorem dX11_shift_5 : decode cX11_shift 5 = .ok (.aload_n 0, 1) := by decide +kernel
theorem dX11_shift_6 : decode cX11_shift 6 = .ok (.iload_n 1, 1) := by decide +kernel
theorem dX11_shift_7 : decode cX11_shift 7 = .ok (.invokevirtual 314, 3) := by decide +kernel
theorem dX11_shift_10 : decode cX11_shift 10 = .ok (.ifCond .eq 15, 3) := by decide +kernel
theorem dX11_shift_25 : decode cX11_shift 25 = .ok (.bipush (-2), 2) := by decide +kernel
theorem dX11_shift_27 : decode cX11_shift 27 = .ok (.ireturn, 1) := by decide +kernel
theorem dX11_swap_0 : decode cX11_swap 0 = .ok (.aload_n 0, 1) := by decide +kernel
theorem dX11_swap_1 : decode cX11_swap 1 = .ok (.iconst 0, 1) := by decide +kernel
theorem dX11_swap_2 : decode cX11_swap 2 = .ok (.putfield 120, 3) := by decide +kernel
theorem dX11_swap_5 : decode cX11_swap 5 = .ok (.aload_n 0, 1) := by decide +kernel
theorem dX11_swap_6 : decode cX11_swap 6 = .ok (.iload_n 1, 1) := by decide +kernel
theorem dX11_swap_7 : decode cX11_swap 7 = .ok (.invokevirtual 307, 3) := by decide +kernel
theorem dX11_swap_10 : decode cX11_swap 10 = .ok (.ifCond .eq 35, 3) := by decide +kernel
theorem dX11_swap_45 : decode cX11_swap 45 = .ok (.bipush (-2), 2) := by decide +kernel
theorem dX11_swap_47 : decode cX11_swap 47 = .ok (.ireturn, 1) := by decide +kernel
theorem dX11_isMoving_0 : decode cX11_isMoving 0 = .ok (.aload_n 0, 1) := by decide +kernel
theorem dX11_isMoving_1 : decode cX11_isMoving 1 = .ok (.iload_n 1, 1) := by decide +kernel
theorem dX11_isMoving_2 : decode cX11_isMoving 2 = .ok (.invokevirtual 319, 3) := by decide +kernel
theorem dX11_isMoving_5 : decode cX11_isMoving 5 = .ok (.ifCond .eq 27, 3) := by decide +kernel
theorem dX11_isMoving_32 : decode cX11_isMoving 32 = .ok (.iconst 0, 1) := by decide +kernel
theorem dX11_isMoving_33 : decode cX11_isMoving 33 = .ok (.ireturn, 1) := by decide +kernel
theorem dX11_tick_0 : decode cX11_tick 0 = .ok (.aload_n 0, 1) := by decide +kernel
theorem dX11_tick_1 : decode cX11_tick 1 = .ok (.iconst 0, 1) := by decide +kernel
theorem dX11_tick_2 : decode cX11_tick 2 = .ok (.putfield 120, 3) := by decide +kernel
theorem dX11_tick_5 : decode cX11_tick 5 = .ok (.aload_n 0, 1) := by decide +kernel
theorem dX11_tick_6 : decode cX11_tick 6 = .ok (.iload_n 1, 1) := by decide +kernel
theorem dX11_tick_7 : decode cX11_tick 7 = .ok (.iload_n 2, 1) := by decide +kernel
theorem dX11_tick_8 : decode cX11_tick 8 = .ok (.iload_n 3, 1) := by decide +kernel
theorem dX11_tick_9 : decode cX11_tick 9 = .ok (.invokevirtual 324, 3) := by decide +kernel
theorem dX11_tick_12 : decode cX11_tick 12 = .ok (.ifCond .eq 27, 3) := by decide +kernel
theorem dX11_tick_39 : decode cX11_tick 39 = .ok (.bipush (-2), 2) := by decide +kernel
theorem dX11_tick_41 : decode cX11_tick 41 = .ok (.ireturn, 1) := by decide +kernel
theorem dX11_isHandled_0 : decode cX11_isHandled 0 = .ok (.aload_n 0, 1) := by decide +kernel
theorem dX11_isHandled_1 : decode cX11_isHandled 1 = .ok (.iload_n 1, 1) := by decide +kernel
theorem dX11_isHandled_2 : decode cX11_isHandled 2 = .ok (.iload_n 3, 1) := by decide +kernel
theorem dX11_isHandled_3 : decode cX11_isHandled 3 = .ok (.iload 4, 2) := by decide +kernel
theorem dX11_isHandled_5 : decode cX11_isHandled 5 = .ok (.invokevirtual 324, 3) := by decide +kernel
theorem dX11_isHandled_8 : decode cX11_isHandled 8 = .ok (.ifCond .eq 15, 3) := by decide +kernel
theorem dX11_isHandled_23 : decode cX11_isHandled 23 = .ok (.iconst 0, 1) := by decide +kernel
theorem dX11_isHandled_24 : decode cX11_isHandled 24 = .ok (.ireturn, 1) := by decide +kernel
theorem dX11_can_0 : decode cX11_can 0 = .ok (.aload_n 0, 1) := by decide +kernel
theorem dX11_can_1 : decode cX11_can 1 = .ok (.iconst 0, 1) := by decide +kernel
theorem dX11_can_2 : decode cX11_can 2 = .ok (.putfield 120, 3) := by decide +kernel
theorem dX11_can_5 : decode cX11_can 5 = .ok (.aload_n 0, 1) := by decide +kernel
theorem dX11_can_6 : decode cX11_can 6 = .ok (.iload_n 1, 1) := by decide +kernel
theorem dX11_can_7 : decode cX11_can 7 = .ok (.iload_n 2, 1) := by decide +kernel
theorem dX11_can_8 : decode cX11_can 8 = .ok (.iload_n 3, 1) := by decide +kernel
theorem dX11_can_9 : decode cX11_can 9 = .ok (.iload 4, 2) := by decide +kernel
theorem dX11_can_11 : decode cX11_can 11 = .ok (.invokevirtual 355, 3) := by decide +kernel
theorem dX11_can_14 : decode cX11_can 14 = .ok (.ifCond .ne 6, 3) := by decide +kernel
theorem dX11_can_17 : decode cX11_can 17 = .ok (.bipush (-2), 2) := by decide +kernel
theorem dX11_can_19 : decode cX11_can 19 = .ok (.ireturn, 1) := by decide +kernel
theorem dX11_step_0 : decode cX11_step 0 = .ok (.aload_n 0, 1) := by decide +kernel
theorem dX11_step_1 : decode cX11_step 1 = .ok (.iconst 0, 1) := by decide +kernel
theorem dX11_step_2 : decode cX11_step 2 = .ok (.putfield 120, 3) := by decide +kernel
theorem dX11_step_5 : decode cX11_step 5 = .ok (.aload_n 0, 1) := by decide +kernel
theorem dX11_step_6 : decode cX11_step 6 = .ok (.iload_n 1, 1) := by decide +kernel
theorem dX11_step_7 : decode cX11_step 7 = .ok (.iload_n 2, 1) := by decide +kernel
theorem dX11_step_8 : decode cX11_step 8 = .ok (.iload_n 3, 1) := by decide +kernel
theorem dX11_step_9 : decode cX11_step 9 = .ok (.iload 4, 2) := by decide +kernel
theorem dX11_step_11 : decode cX11_step 11 = .ok (.invokevirtual 355, 3) := by decide +kernel
theorem dX11_step_14 : decode cX11_step 14 = .ok (.ifCond .ne 6, 3) := by decide +kernel
theorem dX11_step_17 : decode cX11_step 17 = .ok (.bipush (-2), 2) := by decide +kernel
theorem dX11_step_19 : decode cX11_step 19 = .ok (.ireturn, 1) := by decide +kernel
theorem dX11_handled_0 : decode cX11_handled 0 = .ok (.aload_n 0, 1) := by decide +kernel
theorem dX11_handled_1 : decode cX11_handled 1 = .ok (.iconst 0, 1) := by decide +kernel
theorem dX11_handled_2 : decode cX11_handled 2 = .ok (.putfield 120, 3) := by decide +kernel
theorem dX11_handled_5 : decode cX11_handled 5 = .ok (.aload_n 0, 1) := by decide +kernel
theorem dX11_handled_6 : decode cX11_handled 6 = .ok (.iload_n 1, 1) := by decide +kernel
theorem dX11_handled_7 : decode cX11_handled 7 = .ok (.iload_n 2, 1) := by decide +kernel
theorem dX11_handled_8 : decode cX11_handled 8 = .ok (.iload_n 3, 1) := by decide +kernel
theorem dX11_handled_9 : decode cX11_handled 9 = .ok (.iload 4, 2) := by decide +kernel
theorem dX11_handled_11 : decode cX11_handled 11 = .ok (.invokevirtual 355, 3) := by decide +kernel
theorem dX11_handled_14 : decode cX11_handled 14 = .ok (.ifCond .eq 16, 3) := by decide +kernel
theorem dX11_handled_30 : decode cX11_handled 30 = .ok (.bipush (-2), 2) := by decide +kernel
theorem dX11_handled_32 : decode cX11_handled 32 = .ok (.ireturn, 1) := by decide +kernel
theorem dX11_hard_0 : decode cX11_hard 0 = .ok (.aload_n 0, 1) := by decide +kernel
theorem dX11_hard_1 : decode cX11_hard 1 = .ok (.iconst 0, 1) := by decide +kernel
theorem dX11_hard_2 : decode cX11_hard 2 = .ok (.putfield 120, 3) := by decide +kernel
theorem dX11_hard_5 : decode cX11_hard 5 = .ok (.aload_n 0, 1) := by decide +kernel
theorem dX11_hard_6 : decode cX11_hard 6 = .ok (.iload_n 1, 1) := by decide +kernel
theorem dX11_hard_7 : decode cX11_hard 7 = .ok (.iload_n 2, 1) := by decide +kernel
theorem dX11_hard_8 : decode cX11_hard 8 = .ok (.iload_n 3, 1) := by decide +kernel
theorem dX11_hard_9 : decode cX11_hard 9 = .ok (.iload 4, 2) := by decide +kernel
theorem dX11_hard_11 : decode cX11_hard 11 = .ok (.invokevirtual 355, 3) := by decide +kernel
theorem dX11_hard_14 : decode cX11_hard 14 = .ok (.ifCond .ne 6, 3) := by decide +kernel
theorem dX11_hard_17 : decode cX11_hard 17 = .ok (.bipush (-2), 2) := by decide +kernel
theorem dX11_hard_19 : decode cX11_hard 19 = .ok (.ireturn, 1) := by decide +kernel
theorem dX11_quick_0 : decode cX11_quick 0 = .ok (.aload_n 0, 1) := by decide +kernel
theorem dX11_quick_1 : decode cX11_quick 1 = .ok (.iconst 0, 1) := by decide +kernel
theorem dX11_quick_2 : decode cX11_quick 2 = .ok (.putfield 120, 3) := by decide +kernel
theorem dX11_quick_5 : decode cX11_quick 5 = .ok (.aload_n 0, 1) := by decide +kernel
theorem dX11_quick_6 : decode cX11_quick 6 = .ok (.iload_n 1, 1) := by decide +kernel
theorem dX11_quick_7 : decode cX11_quick 7 = .ok (.iload_n 2, 1) := by decide +kernel
theorem dX11_quick_8 : decode cX11_quick 8 = .ok (.iload_n 3, 1) := by decide +kernel
theorem dX11_quick_9 : decode cX11_quick 9 = .ok (.iload 4, 2) := by decide +kernel
theorem dX11_quick_11 : decode cX11_quick 11 = .ok (.invokevirtual 355, 3) := by decide +kernel
theorem dX11_quick_14 : decode cX11_quick 14 = .ok (.ifCond .ne 6, 3) := by decide +kernel
theorem dX11_quick_17 : decode cX11_quick 17 = .ok (.bipush (-2), 2) := by decide +kernel
theorem dX11_quick_19 : decode cX11_quick 19 = .ok (.ireturn, 1) := by decide +kernel
theorem dX11_jolt_0 : decode cX11_jolt 0 = .ok (.aload_n 0, 1) := by decide +kernel
theorem dX11_jolt_1 : decode cX11_jolt 1 = .ok (.iconst 0, 1) := by decide +kernel
theorem dX11_jolt_2 : decode cX11_jolt 2 = .ok (.putfield 120, 3) := by decide +kernel
theorem dX11_jolt_5 : decode cX11_jolt 5 = .ok (.aload_n 0, 1) := by decide +kernel
theorem dX11_jolt_6 : decode cX11_jolt 6 = .ok (.iload_n 1, 1) := by decide +kernel
theorem dX11_jolt_7 : decode cX11_jolt 7 = .ok (.iload_n 2, 1) := by decide +kernel
theorem dX11_jolt_8 : decode cX11_jolt 8 = .ok (.iload_n 3, 1) := by decide +kernel
theorem dX11_jolt_9 : decode cX11_jolt 9 = .ok (.iload 4, 2) := by decide +kernel
theorem dX11_jolt_11 : decode cX11_jolt 11 = .ok (.invokevirtual 355, 3) := by decide +kernel
theorem dX11_jolt_14 : decode cX11_jolt 14 = .ok (.ifCond .ne 6, 3) := by decide +kernel
theorem dX11_jolt_17 : decode cX11_jolt 17 = .ok (.bipush (-2), 2) := by decide +kernel
theorem dX11_jolt_19 : decode cX11_jolt 19 = .ok (.ireturn, 1) := by decide +kernel
theorem dX11_stands_0 : decode cX11_stands 0 = .ok (.aload_n 0, 1) := by decide +kernel
theorem dX11_stands_1 : decode cX11_stands 1 = .ok (.iconst 0, 1) := by decide +kernel
theorem dX11_stands_2 : decode cX11_stands 2 = .ok (.putfield 120, 3) := by decide +kernel
theorem dX11_stands_5 : decode cX11_stands 5 = .ok (.aload_n 0, 1) := by decide +kernel
theorem dX11_stands_6 : decode cX11_stands 6 = .ok (.iload_n 1, 1) := by decide +kernel
theorem dX11_stands_7 : decode cX11_stands 7 = .ok (.iload_n 2, 1) := by decide +kernel
theorem dX11_stands_8 : decode cX11_stands 8 = .ok (.iload_n 3, 1) := by decide +kernel
theorem dX11_stands_9 : decode cX11_stands 9 = .ok (.invokevirtual 324, 3) := by decide +kernel
theorem dX11_stands_12 : decode cX11_stands 12 = .ok (.ifCond .eq 16, 3) := by decide +kernel
theorem dX11_stands_28 : decode cX11_stands 28 = .ok (.bipush (-2), 2) := by decide +kernel
theorem dX11_stands_30 : decode cX11_stands 30 = .ok (.ireturn, 1) := by decide +kernel
theorem dX11_posts_0 : decode cX11_posts 0 = .ok (.aload_n 0, 1) := by decide +kernel
theorem dX11_posts_1 : decode cX11_posts 1 = .ok (.iconst 0, 1) := by decide +kernel
theorem dX11_posts_2 : decode cX11_posts 2 = .ok (.putfield 120, 3) := by decide +kernel
theorem dX11_posts_5 : decode cX11_posts 5 = .ok (.aload_n 0, 1) := by decide +kernel
theorem dX11_posts_6 : decode cX11_posts 6 = .ok (.iload_n 1, 1) := by decide +kernel
theorem dX11_posts_7 : decode cX11_posts 7 = .ok (.invokevirtual 319, 3) := by decide +kernel
theorem dX11_posts_10 : decode cX11_posts 10 = .ok (.ifCond .eq 36, 3) := by decide +kernel
theorem dX11_posts_46 : decode cX11_posts 46 = .ok (.bipush (-2), 2) := by decide +kernel
theorem dX11_posts_48 : decode cX11_posts 48 = .ok (.ireturn, 1) := by decide +kernel
theorem dX11_speeds_0 : decode cX11_speeds 0 = .ok (.aload_n 0, 1) := by decide +kernel
theorem dX11_speeds_1 : decode cX11_speeds 1 = .ok (.iconst 0, 1) := by decide +kernel
theorem dX11_speeds_2 : decode cX11_speeds 2 = .ok (.putfield 120, 3) := by decide +kernel
theorem dX11_speeds_5 : decode cX11_speeds 5 = .ok (.aload_n 0, 1) := by decide +kernel
theorem dX11_speeds_6 : decode cX11_speeds 6 = .ok (.iload_n 1, 1) := by decide +kernel
theorem dX11_speeds_7 : decode cX11_speeds 7 = .ok (.invokevirtual 319, 3) := by decide +kernel
theorem dX11_speeds_10 : decode cX11_speeds 10 = .ok (.ifCond .eq 19, 3) := by decide +kernel
theorem dX11_speeds_29 : decode cX11_speeds 29 = .ok (.bipush (-2), 2) := by decide +kernel
theorem dX11_speeds_31 : decode cX11_speeds 31 = .ok (.ireturn, 1) := by decide +kernel
theorem dX11_wetter_0 : decode cX11_wetter 0 = .ok (.aload_n 0, 1) := by decide +kernel
theorem dX11_wetter_1 : decode cX11_wetter 1 = .ok (.iconst 0, 1) := by decide +kernel
theorem dX11_wetter_2 : decode cX11_wetter 2 = .ok (.putfield 120, 3) := by decide +kernel
theorem dX11_wetter_5 : decode cX11_wetter 5 = .ok (.aload_n 0, 1) := by decide +kernel
theorem dX11_wetter_6 : decode cX11_wetter 6 = .ok (.iload_n 1, 1) := by decide +kernel
theorem dX11_wetter_7 : decode cX11_wetter 7 = .ok (.iload_n 2, 1) := by decide +kernel
theorem dX11_wetter_8 : decode cX11_wetter 8 = .ok (.iload_n 3, 1) := by decide +kernel
theorem dX11_wetter_9 : decode cX11_wetter 9 = .ok (.iload 4, 2) := by decide +kernel
theorem dX11_wetter_11 : decode cX11_wetter 11 = .ok (.invokevirtual 355, 3) := by decide +kernel
theorem dX11_wetter_14 : decode cX11_wetter 14 = .ok (.ifCond .ne 6, 3) := by decide +kernel
theorem dX11_wetter_17 : decode cX11_wetter 17 = .ok (.bipush (-2), 2) := by decide +kernel
theorem dX11_wetter_19 : decode cX11_wetter 19 = .ok (.ireturn, 1) := by decide +kernel
theorem dX11_room_0 : decode cX11_room 0 = .ok (.aload_n 0, 1) := by decide +kernel
theorem dX11_room_1 : decode cX11_room 1 = .ok (.iconst 0, 1) := by decide +kernel
theorem dX11_room_2 : decode cX11_room 2 = .ok (.putfield 120, 3) := by decide +kernel
theorem dX11_room_5 : decode cX11_room 5 = .ok (.aload_n 0, 1) := by decide +kernel
theorem dX11_room_6 : decode cX11_room 6 = .ok (.iload_n 1, 1) := by decide +kernel
theorem dX11_room_7 : decode cX11_room 7 = .ok (.invokevirtual 319, 3) := by decide +kernel
theorem dX11_room_10 : decode cX11_room 10 = .ok (.ifCond .eq 39, 3) := by decide +kernel
theorem dX11_room_49 : decode cX11_room 49 = .ok (.ldc_w 389, 3) := by decide +kernel
theorem dX11_room_52 : decode cX11_room 52 = .ok (.ireturn, 1) := by decide +kernel
theorem dX11_told_0 : decode cX11_told 0 = .ok (.aload_n 0, 1) := by decide +kernel
theorem dX11_told_1 : decode cX11_told 1 = .ok (.iconst 0, 1) := by decide +kernel
theorem dX11_told_2 : decode cX11_told 2 = .ok (.putfield 120, 3) := by decide +kernel
theorem dX11_told_5 : decode cX11_told 5 = .ok (.aload_n 0, 1) := by decide +kernel
theorem dX11_told_6 : decode cX11_told 6 = .ok (.iload_n 2, 1) := by decide +kernel
theorem dX11_told_7 : decode cX11_told 7 = .ok (.iload_n 3, 1) := by decide +kernel
theorem dX11_told_8 : decode cX11_told 8 = .ok (.iload 4, 2) := by decide +kernel
theorem dX11_told_10 : decode cX11_told 10 = .ok (.invokevirtual 324, 3) := by decide +kernel
theorem dX11_told_13 : decode cX11_told 13 = .ok (.ifCond .ne 6, 3) := by decide +kernel
theorem dX11_told_16 : decode cX11_told 16 = .ok (.bipush (-2), 2) := by decide +kernel
theorem dX11_told_18 : decode cX11_told 18 = .ok (.ireturn, 1) := by decide +kernel
theorem dX11_judge_0 : decode cX11_judge 0 = .ok (.aload_n 0, 1) := by decide +kernel
theorem dX11_judge_1 : decode cX11_judge 1 = .ok (.iconst 0, 1) := by decide +kernel
theorem dX11_judge_2 : decode cX11_judge 2 = .ok (.putfield 120, 3) := by decide +kernel
theorem dX11_judge_5 : decode cX11_judge 5 = .ok (.aload_n 0, 1) := by decide +kernel
theorem dX11_judge_6 : decode cX11_judge 6 = .ok (.iload_n 2, 1) := by decide +kernel
theorem dX11_judge_7 : decode cX11_judge 7 = .ok (.iload_n 3, 1) := by decide +kernel
theorem dX11_judge_8 : decode cX11_judge 8 = .ok (.iload 4, 2) := by decide +kernel
theorem dX11_judge_10 : decode cX11_judge 10 = .ok (.iload 5, 2) := by decide +kernel
theorem dX11_judge_12 : decode cX11_judge 12 = .ok (.invokevirtual 355, 3) := by decide +kernel
theorem dX11_judge_15 : decode cX11_judge 15 = .ok (.ifCond .ne 6, 3) := by decide +kernel
theorem dX11_judge_18 : decode cX11_judge 18 = .ok (.bipush (-2), 2) := by decide +kernel
theorem dX11_judge_20 : decode cX11_judge 20 = .ok (.ireturn, 1) := by decide +kernel
theorem dX11_pulls_0 : decode cX11_pulls 0 = .ok (.aload_n 0, 1) := by decide +kernel
theorem dX11_pulls_1 : decode cX11_pulls 1 = .ok (.iconst 0, 1) := by decide +kernel
theorem dX11_pulls_2 : decode cX11_pulls 2 = .ok (.putfield 120, 3) := by decide +kernel
theorem dX11_pulls_5 : decode cX11_pulls 5 = .ok (.aload_n 0, 1) := by decide +kernel
theorem dX11_pulls_6 : decode cX11_pulls 6 = .ok (.iload_n 1, 1) := by decide +kernel
theorem dX11_pulls_7 : decode cX11_pulls 7 = .ok (.invokevirtual 314, 3) := by decide +kernel
theorem dX11_pulls_10 : decode cX11_pulls 10 = .ok (.ifCond .eq 33, 3) := by decide +kernel
theorem dX11_pulls_43 : decode cX11_pulls 43 = .ok (.bipush (-2), 2) := by decide +kernel
theorem dX11_pulls_45 : decode cX11_pulls 45 = .ok (.ireturn, 1) := by decide +kernel
theorem dX11_passes_0 : decode cX11_passes 0 = .ok (.aload_n 0, 1) := by decide +kernel
theorem dX11_passes_1 : decode cX11_passes 1 = .ok (.iconst 0, 1) := by decide +kernel
theorem dX11_passes_2 : decode cX11_passes 2 = .ok (.putfield 120, 3) := by decide +kernel
theorem dX11_passes_5 : decode cX11_passes 5 = .ok (.aload_n 0, 1) := by decide +kernel
theorem dX11_passes_6 : decode cX11_passes 6 = .ok (.iload_n 1, 1) := by decide +kernel
theorem dX11_passes_7 : decode cX11_passes 7 = .ok (.invokevirtual 314, 3) := by decide +kernel
theorem dX11_passes_10 : decode cX11_passes 10 = .ok (.ifCond .eq 11, 3) := by decide +kernel
theorem dX11_passes_21 : decode cX11_passes 21 = .ok (.bipush (-2), 2) := by decide +kernel
theorem dX11_passes_23 : decode cX11_passes 23 = .ok (.ireturn, 1) := by decide +kernel
theorem dX11_lets_0 : decode cX11_lets 0 = .ok (.aload_n 0, 1) := by decide +kernel
theorem dX11_lets_1 : decode cX11_lets 1 = .ok (.iconst 0, 1) := by decide +kernel
theorem dX11_lets_2 : decode cX11_lets 2 = .ok (.putfield 120, 3) := by decide +kernel
theorem dX11_lets_5 : decode cX11_lets 5 = .ok (.aload_n 0, 1) := by decide +kernel
theorem dX11_lets_6 : decode cX11_lets 6 = .ok (.iload_n 1, 1) := by decide +kernel
theorem dX11_lets_7 : decode cX11_lets 7 = .ok (.invokevirtual 307, 3) := by decide +kernel
theorem dX11_lets_10 : decode cX11_lets 10 = .ok (.ifCond .eq 15, 3) := by decide +kernel
theorem dX11_lets_25 : decode cX11_lets 25 = .ok (.bipush (-2), 2) := by decide +kernel
theorem dX11_lets_27 : decode cX11_lets 27 = .ok (.ireturn, 1) := by decide +kernel
theorem dX11_comes_0 : decode cX11_comes 0 = .ok (.aload_n 0, 1) := by decide +kernel
theorem dX11_comes_1 : decode cX11_comes 1 = .ok (.iconst 0, 1) := by decide +kernel
theorem dX11_comes_2 : decode cX11_comes 2 = .ok (.putfield 120, 3) := by decide +kernel
theorem dX11_comes_5 : decode cX11_comes 5 = .ok (.aload_n 0, 1) := by decide +kernel
theorem dX11_comes_6 : decode cX11_comes 6 = .ok (.iload_n 1, 1) := by decide +kernel
theorem dX11_comes_7 : decode cX11_comes 7 = .ok (.invokevirtual 307, 3) := by decide +kernel
theorem dX11_comes_10 : decode cX11_comes 10 = .ok (.ifCond .eq 15, 3) := by decide +kernel
theorem dX11_comes_25 : decode cX11_comes 25 = .ok (.bipush (-2), 2) := by decide +kernel
theorem dX11_comes_27 : decode cX11_comes 27 = .ok (.ireturn, 1) := by decide +kernel
theorem dX11_clear_0 : decode cX11_clear 0 = .ok (.aload_n 0, 1) := by decide +kernel
theorem dX11_clear_1 : decode cX11_clear 1 = .ok (.iconst 0, 1) := by decide +kernel
theorem dX11_clear_2 : decode cX11_clear 2 = .ok (.putfield 120, 3) := by decide +kernel
theorem dX11_clear_5 : decode cX11_clear 5 = .ok (.aload_n 0, 1) := by decide +kernel
theorem dX11_clear_6 : decode cX11_clear 6 = .ok (.iload_n 1, 1) := by decide +kernel
theorem dX11_clear_7 : decode cX11_clear 7 = .ok (.invokevirtual 307, 3) := by decide +kernel
theorem dX11_clear_10 : decode cX11_clear 10 = .ok (.ifCond .ne 6, 3) := by decide +kernel
theorem dX11_clear_13 : decode cX11_clear 13 = .ok (.bipush (-2), 2) := by decide +kernel
theorem dX11_clear_15 : decode cX11_clear 15 = .ok (.ireturn, 1) := by decide +kernel
theorem dX11_good_0 : decode cX11_good 0 = .ok (.aload_n 0, 1) := by decide +kernel
theorem dX11_good_1 : decode cX11_good 1 = .ok (.iconst 0, 1) := by decide +kernel
theorem dX11_good_2 : decode cX11_good 2 = .ok (.putfield 120, 3) := by decide +kernel
theorem dX11_good_5 : decode cX11_good 5 = .ok (.aload_n 0, 1) := by decide +kernel
theorem dX11_good_6 : decode cX11_good 6 = .ok (.invokevirtual 290, 3) := by decide +kernel
theorem dX11_good_9 : decode cX11_good 9 = .ok (.ifCond .ne 5, 3) := by decide +kernel
theorem dX11_good_12 : decode cX11_good 12 = .ok (.iconst (-1), 1) := by decide +kernel
theorem dX11_good_13 : decode cX11_good 13 = .ok (.ireturn, 1) := by decide +kernel
theorem dX11_breach_0 : decode cX11_breach 0 = .ok (.aload_n 0, 1) := by decide +kernel
theorem dX11_breach_1 : decode cX11_breach 1 = .ok (.iconst 0, 1) := by decide +kernel
theorem dX11_breach_2 : decode cX11_breach 2 = .ok (.putfield 120, 3) := by decide +kernel
theorem dX11_breach_5 : decode cX11_breach 5 = .ok (.aload_n 0, 1) := by decide +kernel
theorem dX11_breach_6 : decode cX11_breach 6 = .ok (.invokevirtual 290, 3) := by decide +kernel
theorem dX11_breach_9 : decode cX11_breach 9 = .ok (.ifCond .eq 15, 3) := by decide +kernel
theorem dX11_breach_24 : decode cX11_breach 24 = .ok (.bipush (-2), 2) := by decide +kernel
theorem dX11_breach_26 : decode cX11_breach 26 = .ok (.ireturn, 1) := by decide +kernel
theorem dX11_mistake_0 : decode cX11_mistake 0 = .ok (.aload_n 0, 1) := by decide +kernel
theorem dX11_mistake_1 : decode cX11_mistake 1 = .ok (.iconst 0, 1) := by decide +kernel
theorem dX11_mistake_2 : decode cX11_mistake 2 = .ok (.putfield 120, 3) := by decide +kernel
theorem dX11_mistake_5 : decode cX11_mistake 5 = .ok (.aload_n 0, 1) := by decide +kernel
theorem dX11_mistake_6 : decode cX11_mistake 6 = .ok (.invokevirtual 290, 3) := by decide +kernel
theorem dX11_mistake_9 : decode cX11_mistake 9 = .ok (.ifCond .eq 27, 3) := by decide +kernel
theorem dX11_mistake_36 : decode cX11_mistake 36 = .ok (.bipush (-2), 2) := by decide +kernel
theorem dX11_mistake_38 : decode cX11_mistake 38 = .ok (.ireturn, 1) := by decide +kernel
theorem dX11_weak_0 : decode cX11_weak 0 = .ok (.aload_n 0, 1) := by decide +kernel
theorem dX11_weak_1 : decode cX11_weak 1 = .ok (.iconst 0, 1) := by decide +kernel
theorem dX11_weak_2 : decode cX11_weak 2 = .ok (.putfield 120, 3) := by decide +kernel
theorem dX11_weak_5 : decode cX11_weak 5 = .ok (.aload_n 0, 1) := by decide +kernel
theorem dX11_weak_6 : decode cX11_weak 6 = .ok (.invokevirtual 290, 3) := by decide +kernel
theorem dX11_weak_9 : decode cX11_weak 9 = .ok (.ifCond .eq 15, 3) := by decide +kernel
theorem dX11_weak_24 : decode cX11_weak 24 = .ok (.bipush (-2), 2) := by decide +kernel
theorem dX11_weak_26 : decode cX11_weak 26 = .ok (.ireturn, 1) := by decide +kernel
theorem dX11_start_0 : decode cX11_start 0 = .ok (.aload_n 0, 1) := by decide +kernel
theorem dX11_start_1 : decode cX11_start 1 = .ok (.iconst 0, 1) := by decide +kernel
theorem dX11_start_2 : decode cX11_start 2 = .ok (.putfield 120, 3) := by decide +kernel
theorem dX11_start_5 : decode cX11_start 5 = .ok (.aload_n 0, 1) := by decide +kernel
theorem dX11_start_6 : decode cX11_start 6 = .ok (.iload_n 1, 1) := by decide +kernel
theorem dX11_start_7 : decode cX11_start 7 = .ok (.invokevirtual 314, 3) := by decide +kernel
theorem dX11_start_10 : decode cX11_start 10 = .ok (.ifCond .ne 6, 3) := by decide +kernel
theorem dX11_start_13 : decode cX11_start 13 = .ok (.bipush (-2), 2) := by decide +kernel
theorem dX11_start_15 : decode cX11_start 15 = .ok (.ireturn, 1) := by decide +kernel
theorem dX11_shunts_0 : decode cX11_shunts 0 = .ok (.aload_n 0, 1) := by decide +kernel
theorem dX11_shunts_1 : decode cX11_shunts 1 = .ok (.iconst 0, 1) := by decide +kernel
theorem dX11_shunts_2 : decode cX11_shunts 2 = .ok (.putfield 120, 3) := by decide +kernel
theorem dX11_shunts_5 : decode cX11_shunts 5 = .ok (.aload_n 0, 1) := by decide +kernel
theorem dX11_shunts_6 : decode cX11_shunts 6 = .ok (.iload_n 1, 1) := by decide +kernel
theorem dX11_shunts_7 : decode cX11_shunts 7 = .ok (.invokevirtual 314, 3) := by decide +kernel
theorem dX11_shunts_10 : decode cX11_shunts 10 = .ok (.ifCond .eq 13, 3) := by decide +kernel
theorem dX11_shunts_23 : decode cX11_shunts 23 = .ok (.bipush (-2), 2) := by decide +kernel
theorem dX11_shunts_25 : decode cX11_shunts 25 = .ok (.ireturn, 1) := by decide +kernel
theorem dX11_order_0 : decode cX11_order 0 = .ok (.aload_n 0, 1) := by decide +kernel
theorem dX11_order_1 : decode cX11_order 1 = .ok (.iconst 0, 1) := by decide +kernel
theorem dX11_order_2 : decode cX11_order 2 = .ok (.putfield 120, 3) := by decide +kernel
theorem dX11_order_5 : decode cX11_order 5 = .ok (.aload_n 0, 1) := by decide +kernel
theorem dX11_order_6 : decode cX11_order 6 = .ok (.iload_n 1, 1) := by decide +kernel
theorem dX11_order_7 : decode cX11_order 7 = .ok (.invokevirtual 314, 3) := by decide +kernel
theorem dX11_order_10 : decode cX11_order 10 = .ok (.ifCond .ne 6, 3) := by decide +kernel
theorem dX11_order_13 : decode cX11_order 13 = .ok (.bipush (-2), 2) := by decide +kernel
theorem dX11_order_15 : decode cX11_order 15 = .ok (.ireturn, 1) := by decide +kernel
theorem dX11_blocked_0 : decode cX11_blocked 0 = .ok (.aload_n 0, 1) := by decide +kernel
theorem dX11_blocked_1 : decode cX11_blocked 1 = .ok (.iconst 0, 1) := by decide +kernel
theorem dX11_blocked_2 : decode cX11_blocked 2 = .ok (.putfield 120, 3) := by decide +kernel
theorem dX11_blocked_5 : decode cX11_blocked 5 = .ok (.aload_n 0, 1) := by decide +kernel
theorem dX11_blocked_6 : decode cX11_blocked 6 = .ok (.iload_n 1, 1) := by decide +kernel
theorem dX11_blocked_7 : decode cX11_blocked 7 = .ok (.invokevirtual 314, 3) := by decide +kernel
theorem dX11_blocked_10 : decode cX11_blocked 10 = .ok (.ifCond .ne 6, 3) := by decide +kernel
theorem dX11_blocked_13 : decode cX11_blocked 13 = .ok (.bipush (-2), 2) := by decide +kernel
theorem dX11_blocked_15 : decode cX11_blocked 15 = .ok (.ireturn, 1) := by decide +kernel
theorem dX11_saved_0 : decode cX11_saved 0 = .ok (.aload_n 0, 1) := by decide +kernel
theorem dX11_saved_1 : decode cX11_saved 1 = .ok (.iconst 0, 1) := by decide +kernel
theorem dX11_saved_2 : decode cX11_saved 2 = .ok (.putfield 120, 3) := by decide +kernel
theorem dX11_saved_5 : decode cX11_saved 5 = .ok (.aload_n 0, 1) := by decide +kernel
theorem dX11_saved_6 : decode cX11_saved 6 = .ok (.iload_n 1, 1) := by decide +kernel
theorem dX11_saved_7 : decode cX11_saved 7 = .ok (.invokevirtual 314, 3) := by decide +kernel
theorem dX11_saved_10 : decode cX11_saved 10 = .ok (.ifCond .eq 15, 3) := by decide +kernel
theorem dX11_saved_25 : decode cX11_saved 25 = .ok (.ldc_w 389, 3) := by decide +kernel
theorem dX11_saved_28 : decode cX11_saved 28 = .ok (.ireturn, 1) := by decide +kernel
theorem dX11_best_0 : decode cX11_best 0 = .ok (.aload_n 0, 1) := by decide +kernel
theorem dX11_best_1 : decode cX11_best 1 = .ok (.iconst 0, 1) := by decide +kernel
theorem dX11_best_2 : decode cX11_best 2 = .ok (.putfield 120, 3) := by decide +kernel
theorem dX11_best_5 : decode cX11_best 5 = .ok (.aload_n 0, 1) := by decide +kernel
theorem dX11_best_6 : decode cX11_best 6 = .ok (.iload_n 1, 1) := by decide +kernel
theorem dX11_best_7 : decode cX11_best 7 = .ok (.invokevirtual 307, 3) := by decide +kernel
theorem dX11_best_10 : decode cX11_best 10 = .ok (.ifCond .ne 6, 3) := by decide +kernel
theorem dX11_best_13 : decode cX11_best 13 = .ok (.bipush (-2), 2) := by decide +kernel
theorem dX11_best_15 : decode cX11_best 15 = .ok (.ireturn, 1) := by decide +kernel
theorem dX11_margin_0 : decode cX11_margin 0 = .ok (.aload_n 0, 1) := by decide +kernel
theorem dX11_margin_1 : decode cX11_margin 1 = .ok (.iconst 0, 1) := by decide +kernel
theorem dX11_margin_2 : decode cX11_margin 2 = .ok (.putfield 120, 3) := by decide +kernel
theorem dX11_margin_5 : decode cX11_margin 5 = .ok (.aload_n 0, 1) := by decide +kernel
theorem dX11_margin_6 : decode cX11_margin 6 = .ok (.iload_n 1, 1) := by decide +kernel
theorem dX11_margin_7 : decode cX11_margin 7 = .ok (.invokevirtual 307, 3) := by decide +kernel
theorem dX11_margin_10 : decode cX11_margin 10 = .ok (.ifCond .eq 13, 3) := by decide +kernel
theorem dX11_margin_23 : decode cX11_margin 23 = .ok (.bipush (-2), 2) := by decide +kernel
theorem dX11_margin_25 : decode cX11_margin 25 = .ok (.ireturn, 1) := by decide +kernel
theorem dX11_isDay_0 : decode cX11_isDay 0 = .ok (.aload_n 0, 1) := by decide +kernel
theorem dX11_isDay_1 : decode cX11_isDay 1 = .ok (.invokevirtual 290, 3) := by decide +kernel
theorem dX11_isDay_4 : decode cX11_isDay 4 = .ok (.ifCond .eq 43, 3) := by decide +kernel
theorem dX11_isDay_47 : decode cX11_isDay 47 = .ok (.iconst 0, 1) := by decide +kernel
theorem dX11_isDay_48 : decode cX11_isDay 48 = .ok (.ireturn, 1) := by decide +kernel
theorem dX11_days_0 : decode cX11_days 0 = .ok (.aload_n 0, 1) := by decide +kernel
theorem dX11_days_1 : decode cX11_days 1 = .ok (.iconst 0, 1) := by decide +kernel
theorem dX11_days_2 : decode cX11_days 2 = .ok (.putfield 120, 3) := by decide +kernel
theorem dX11_days_5 : decode cX11_days 5 = .ok (.aload_n 0, 1) := by decide +kernel
theorem dX11_days_6 : decode cX11_days 6 = .ok (.iload_n 1, 1) := by decide +kernel
theorem dX11_days_7 : decode cX11_days 7 = .ok (.iload_n 3, 1) := by decide +kernel
theorem dX11_days_8 : decode cX11_days 8 = .ok (.iload 4, 2) := by decide +kernel
theorem dX11_days_10 : decode cX11_days 10 = .ok (.invokevirtual 519, 3) := by decide +kernel
theorem dX11_days_13 : decode cX11_days 13 = .ok (.ifCond .eq 15, 3) := by decide +kernel
theorem dX11_days_28 : decode cX11_days 28 = .ok (.bipush (-2), 2) := by decide +kernel
theorem dX11_days_30 : decode cX11_days 30 = .ok (.ireturn, 1) := by decide +kernel
theorem dX11_day_0 : decode cX11_day 0 = .ok (.aload_n 0, 1) := by decide +kernel
theorem dX11_day_1 : decode cX11_day 1 = .ok (.iconst 0, 1) := by decide +kernel
theorem dX11_day_2 : decode cX11_day 2 = .ok (.putfield 120, 3) := by decide +kernel
theorem dX11_day_5 : decode cX11_day 5 = .ok (.aload_n 0, 1) := by decide +kernel
theorem dX11_day_6 : decode cX11_day 6 = .ok (.iload_n 1, 1) := by decide +kernel
theorem dX11_day_7 : decode cX11_day 7 = .ok (.iload_n 2, 1) := by decide +kernel
theorem dX11_day_8 : decode cX11_day 8 = .ok (.iload_n 3, 1) := by decide +kernel
theorem dX11_day_9 : decode cX11_day 9 = .ok (.invokevirtual 519, 3) := by decide +kernel
theorem dX11_day_12 : decode cX11_day 12 = .ok (.ifCond .ne 6, 3) := by decide +kernel
theorem dX11_day_15 : decode cX11_day 15 = .ok (.bipush (-2), 2) := by decide +kernel
theorem dX11_day_17 : decode cX11_day 17 = .ok (.ireturn, 1) := by decide +kernel
theorem dX11_count_0 : decode cX11_count 0 = .ok (.aload_n 0, 1) := by decide +kernel
theorem dX11_count_1 : decode cX11_count 1 = .ok (.iconst 0, 1) := by decide +kernel
theorem dX11_count_2 : decode cX11_count 2 = .ok (.putfield 120, 3) := by decide +kernel
theorem dX11_count_5 : decode cX11_count 5 = .ok (.iconst 0, 1) := by decide +kernel
theorem dX11_count_6 : decode cX11_count 6 = .ok (.istore_n 2, 1) := by decide +kernel
theorem dX11_count_7 : decode cX11_count 7 = .ok (.iload_n 1, 1) := by decide +kernel
theorem dX11_count_8 : decode cX11_count 8 = .ok (.tableswitch 140 0 8 #[52, 59, 66, 73, 80, 88, 95, 100, 107], 52) := by decide +kernel
theorem dX11_count_60 : decode cX11_count 60 = .ok (.aload_n 0, 1) := by decide +kernel
theorem dX11_count_61 : decode cX11_count 61 = .ok (.getfield 34, 3) := by decide +kernel
theorem dX11_count_64 : decode cX11_count 64 = .ok (.iconst 0, 1) := by decide +kernel
theorem dX11_count_65 : decode cX11_count 65 = .ok (.iaload, 1) := by decide +kernel
theorem dX11_count_66 : decode cX11_count 66 = .ok (.ireturn, 1) := by decide +kernel
theorem dX11_count_67 : decode cX11_count 67 = .ok (.aload_n 0, 1) := by decide +kernel
theorem dX11_count_68 : decode cX11_count 68 = .ok (.getfield 40, 3) := by decide +kernel
theorem dX11_count_71 : decode cX11_count 71 = .ok (.iconst 4, 1) := by decide +kernel
theorem dX11_count_72 : decode cX11_count 72 = .ok (.iaload, 1) := by decide +kernel
theorem dX11_count_73 : decode cX11_count 73 = .ok (.ireturn, 1) := by decide +kernel
theorem dX11_count_74 : decode cX11_count 74 = .ok (.aload_n 0, 1) := by decide +kernel
theorem dX11_count_75 : decode cX11_count 75 = .ok (.getfield 40, 3) := by decide +kernel
theorem dX11_count_78 : decode cX11_count 78 = .ok (.iconst 3, 1) := by decide +kernel
theorem dX11_count_79 : decode cX11_count 79 = .ok (.iaload, 1) := by decide +kernel
theorem dX11_count_80 : decode cX11_count 80 = .ok (.ireturn, 1) := by decide +kernel
theorem dX11_count_81 : decode cX11_count 81 = .ok (.aload_n 0, 1) := by decide +kernel
theorem dX11_count_82 : decode cX11_count 82 = .ok (.getfield 40, 3) := by decide +kernel
theorem dX11_count_85 : decode cX11_count 85 = .ok (.iconst 5, 1) := by decide +kernel
theorem dX11_count_86 : decode cX11_count 86 = .ok (.iaload, 1) := by decide +kernel
theorem dX11_count_87 : decode cX11_count 87 = .ok (.ireturn, 1) := by decide +kernel
theorem dX11_count_88 : decode cX11_count 88 = .ok (.aload_n 0, 1) := by decide +kernel
theorem dX11_count_89 : decode cX11_count 89 = .ok (.getfield 40, 3) := by decide +kernel
theorem dX11_count_92 : decode cX11_count 92 = .ok (.bipush 6, 2) := by decide +kernel
theorem dX11_count_94 : decode cX11_count 94 = .ok (.iaload, 1) := by decide +kernel
theorem dX11_count_95 : decode cX11_count 95 = .ok (.ireturn, 1) := by decide +kernel
theorem dX11_count_96 : decode cX11_count 96 = .ok (.aload_n 0, 1) := by decide +kernel
theorem dX11_count_97 : decode cX11_count 97 = .ok (.getfield 31, 3) := by decide +kernel
theorem dX11_count_100 : decode cX11_count 100 = .ok (.iconst 0, 1) := by decide +kernel
theorem dX11_count_101 : decode cX11_count 101 = .ok (.iaload, 1) := by decide +kernel
theorem dX11_count_102 : decode cX11_count 102 = .ok (.ireturn, 1) := by decide +kernel
theorem dX11_count_103 : decode cX11_count 103 = .ok (.aload_n 0, 1) := by decide +kernel
theorem dX11_count_104 : decode cX11_count 104 = .ok (.getfield 137, 3) := by decide +kernel
theorem dX11_count_107 : decode cX11_count 107 = .ok (.ireturn, 1) := by decide +kernel
theorem dX11_count_108 : decode cX11_count 108 = .ok (.aload_n 0, 1) := by decide +kernel
theorem dX11_count_109 : decode cX11_count 109 = .ok (.getfield 37, 3) := by decide +kernel
theorem dX11_count_112 : decode cX11_count 112 = .ok (.iconst 0, 1) := by decide +kernel
theorem dX11_count_113 : decode cX11_count 113 = .ok (.iaload, 1) := by decide +kernel
theorem dX11_count_114 : decode cX11_count 114 = .ok (.ireturn, 1) := by decide +kernel
theorem dX11_count_115 : decode cX11_count 115 = .ok (.iconst 0, 1) := by decide +kernel
theorem dX11_count_116 : decode cX11_count 116 = .ok (.istore_n 3, 1) := by decide +kernel
theorem dX11_count_117 : decode cX11_count 117 = .ok (.iload_n 3, 1) := by decide +kernel
theorem dX11_count_118 : decode cX11_count 118 = .ok (.iconst 4, 1) := by decide +kernel
theorem dX11_count_119 : decode cX11_count 119 = .ok (.if_icmp .ge 27, 3) := by decide +kernel
theorem dX11_count_122 : decode cX11_count 122 = .ok (.iload_n 2, 1) := by decide +kernel
theorem dX11_count_123 : decode cX11_count 123 = .ok (.aload_n 0, 1) := by decide +kernel
theorem dX11_count_124 : decode cX11_count 124 = .ok (.getfield 7, 3) := by decide +kernel
theorem dX11_count_127 : decode cX11_count 127 = .ok (.iload_n 3, 1) := by decide +kernel
theorem dX11_count_128 : decode cX11_count 128 = .ok (.iaload, 1) := by decide +kernel
theorem dX11_count_129 : decode cX11_count 129 = .ok (.iconst (-1), 1) := by decide +kernel
theorem dX11_count_130 : decode cX11_count 130 = .ok (.if_icmp .ne 7, 3) := by decide +kernel
theorem dX11_count_133 : decode cX11_count 133 = .ok (.iconst 0, 1) := by decide +kernel
theorem dX11_count_134 : decode cX11_count 134 = .ok (.goto 4, 3) := by decide +kernel
theorem dX11_count_138 : decode cX11_count 138 = .ok (.iadd, 1) := by decide +kernel
theorem dX11_count_139 : decode cX11_count 139 = .ok (.istore_n 2, 1) := by decide +kernel
theorem dX11_count_140 : decode cX11_count 140 = .ok (.iinc 3 1, 3) := by decide +kernel
theorem dX11_count_143 : decode cX11_count 143 = .ok (.goto (-26), 3) := by decide +kernel
theorem dX11_count_146 : decode cX11_count 146 = .ok (.iload_n 2, 1) := by decide +kernel
theorem dX11_count_147 : decode cX11_count 147 = .ok (.ireturn, 1) := by decide +kernel
theorem dX11_count_148 : decode cX11_count 148 = .ok (.iconst (-1), 1) := by decide +kernel
theorem dX11_count_149 : decode cX11_count 149 = .ok (.ireturn, 1) := by decide +kernel
theorem dX11_keep_0 : decode cX11_keep 0 = .ok (.aload_n 0, 1) := by decide +kernel
theorem dX11_keep_1 : decode cX11_keep 1 = .ok (.iconst 0, 1) := by decide +kernel
theorem dX11_keep_2 : decode cX11_keep 2 = .ok (.putfield 120, 3) := by decide +kernel
theorem dX11_keep_5 : decode cX11_keep 5 = .ok (.iload_n 1, 1) := by decide +kernel
theorem dX11_keep_6 : decode cX11_keep 6 = .ok (.i2l, 1) := by decide +kernel
theorem dX11_keep_7 : decode cX11_keep 7 = .ok (.lconst 0, 1) := by decide +kernel
theorem dX11_keep_8 : decode cX11_keep 8 = .ok (.ldc2_w 296, 3) := by decide +kernel
theorem dX11_keep_11 : decode cX11_keep 11 = .ok (.invokestatic 125, 3) := by decide +kernel
theorem dX11_keep_14 : decode cX11_keep 14 = .ok (.ifCond .ne 6, 3) := by decide +kernel
theorem dX11_keep_17 : decode cX11_keep 17 = .ok (.bipush (-2), 2) := by decide +kernel
theorem dX11_keep_19 : decode cX11_keep 19 = .ok (.ireturn, 1) := by decide +kernel
theorem dX11_keep_20 : decode cX11_keep 20 = .ok (.aload_n 0, 1) := by decide +kernel
theorem dX11_keep_21 : decode cX11_keep 21 = .ok (.iconst 0, 1) := by decide +kernel
theorem dX11_keep_22 : decode cX11_keep 22 = .ok (.iconst 1, 1) := by decide +kernel
theorem dX11_keep_23 : decode cX11_keep 23 = .ok (.iload_n 1, 1) := by decide +kernel
theorem dX11_keep_24 : decode cX11_keep 24 = .ok (.iadd, 1) := by decide +kernel
theorem dX11_keep_25 : decode cX11_keep 25 = .ok (.invokevirtual 282, 3) := by decide +kernel
theorem dX11_keep_28 : decode cX11_keep 28 = .ok (.aload_n 0, 1) := by decide +kernel
theorem dX11_keep_29 : decode cX11_keep 29 = .ok (.getfield 64, 3) := by decide +kernel
theorem dX11_keep_32 : decode cX11_keep 32 = .ok (.iload_n 1, 1) := by decide +kernel
theorem dX11_keep_33 : decode cX11_keep 33 = .ok (.iconst 1, 1) := by decide +kernel
theorem dX11_keep_34 : decode cX11_keep 34 = .ok (.bastore, 1) := by decide +kernel
theorem dX11_keep_35 : decode cX11_keep 35 = .ok (.iconst 0, 1) := by decide +kernel
theorem dX11_keep_36 : decode cX11_keep 36 = .ok (.ireturn, 1) := by decide +kernel
theorem dX11_back_0 : decode cX11_back 0 = .ok (.aload_n 0, 1) := by decide +kernel
theorem dX11_back_1 : decode cX11_back 1 = .ok (.iconst 0, 1) := by decide +kernel
theorem dX11_back_2 : decode cX11_back 2 = .ok (.putfield 120, 3) := by decide +kernel
theorem dX11_back_5 : decode cX11_back 5 = .ok (.iload_n 1, 1) := by decide +kernel
theorem dX11_back_6 : decode cX11_back 6 = .ok (.i2l, 1) := by decide +kernel
theorem dX11_back_7 : decode cX11_back 7 = .ok (.lconst 0, 1) := by decide +kernel
theorem dX11_back_8 : decode cX11_back 8 = .ok (.ldc2_w 296, 3) := by decide +kernel
theorem dX11_back_11 : decode cX11_back 11 = .ok (.invokestatic 125, 3) := by decide +kernel
theorem dX11_back_14 : decode cX11_back 14 = .ok (.ifCond .ne 6, 3) := by decide +kernel
theorem dX11_back_17 : decode cX11_back 17 = .ok (.bipush (-2), 2) := by decide +kernel
theorem dX11_back_19 : decode cX11_back 19 = .ok (.ireturn, 1) := by decide +kernel
theorem dX11_back_20 : decode cX11_back 20 = .ok (.aload_n 0, 1) := by decide +kernel
theorem dX11_back_21 : decode cX11_back 21 = .ok (.getfield 64, 3) := by decide +kernel
theorem dX11_back_24 : decode cX11_back 24 = .ok (.iload_n 1, 1) := by decide +kernel
theorem dX11_back_25 : decode cX11_back 25 = .ok (.baload, 1) := by decide +kernel
theorem dX11_back_26 : decode cX11_back 26 = .ok (.ifCond .ne 6, 3) := by decide +kernel
theorem dX11_back_29 : decode cX11_back 29 = .ok (.bipush (-6), 2) := by decide +kernel
theorem dX11_back_31 : decode cX11_back 31 = .ok (.ireturn, 1) := by decide +kernel
theorem dJ7_fill_d0a16_0 : decode cJ7_fill_d0a16 0 = .ok (.iconst 0, 1) := by decide +kernel
theorem dJ7_fill_d0a16_1 : decode cJ7_fill_d0a16 1 = .ok (.istore_n 3, 1) := by decide +kernel
theorem dJ7_fill_d0a16_2 : decode cJ7_fill_d0a16 2 = .ok (.aload_n 0, 1) := by decide +kernel
theorem dJ7_fill_d0a16_3 : decode cJ7_fill_d0a16 3 = .ok (.arraylength, 1) := by decide +kernel
theorem dJ7_fill_d0a16_4 : decode cJ7_fill_d0a16 4 = .ok (.istore 4, 2) := by decide +kernel
theorem dJ7_fill_d0a16_6 : decode cJ7_fill_d0a16 6 = .ok (.iload_n 3, 1) := by decide +kernel
theorem dJ7_fill_d0a16_7 : decode cJ7_fill_d0a16 7 = .ok (.iload 4, 2) := by decide +kernel
theorem dJ7_fill_d0a16_9 : decode cJ7_fill_d0a16 9 = .ok (.if_icmp .ge 13, 3) := by decide +kernel
theorem dJ7_fill_d0a16_12 : decode cJ7_fill_d0a16 12 = .ok (.aload_n 0, 1) := by decide +kernel
theorem dJ7_fill_d0a16_13 : decode cJ7_fill_d0a16 13 = .ok (.iload_n 3, 1) := by decide +kernel
theorem dJ7_fill_d0a16_14 : decode cJ7_fill_d0a16 14 = .ok (.lload_n 1, 1) := by decide +kernel
theorem dJ7_fill_d0a16_15 : decode cJ7_fill_d0a16 15 = .ok (.lastore, 1) := by decide +kernel
theorem dJ7_fill_d0a16_16 : decode cJ7_fill_d0a16 16 = .ok (.iinc 3 1, 3) := by decide +kernel
theorem dJ7_fill_d0a16_19 : decode cJ7_fill_d0a16 19 = .ok (.goto (-13), 3) := by decide +kernel
theorem dJ7_fill_d0a16_22 : decode cJ7_fill_d0a16 22 = .ok (.return_, 1) := by decide +kernel

theorem dX11_mistake_59 : decode cX11_mistake 59 = .ok (.iload_n 2, 1) := by decide +kernel
theorem dX11_mistake_60 : decode cX11_mistake 60 = .ok (.invokevirtual 478, 3) := by decide +kernel
theorem dX11_mistake_63 : decode cX11_mistake 63 = .ok (.ifCond .eq 5, 3) := by decide +kernel
theorem dX11_mistake_66 : decode cX11_mistake 66 = .ok (.iload_n 3, 1) := by decide +kernel
theorem dX11_mistake_67 : decode cX11_mistake 67 = .ok (.ireturn, 1) := by decide +kernel
theorem dX11_mistake_68 : decode cX11_mistake 68 = .ok (.iinc 3 1, 3) := by decide +kernel
theorem dX11_mistake_71 : decode cX11_mistake 71 = .ok (.goto (-26), 3) := by decide +kernel
theorem dX11_mistake_74 : decode cX11_mistake 74 = .ok (.iconst (-1), 1) := by decide +kernel
theorem dX11_mistake_75 : decode cX11_mistake 75 = .ok (.ireturn, 1) := by decide +kernel
set_option maxRecDepth 20000 in
theorem ggX11_weak_X11_isLine : GoodIn wsX11_weak wsX11_isLine := goodIn_r _ [8, 9, 162, 163, 164, 165, 166, 167, 168, 169, 170, 171, 172, 173, 174, 175, 176, 177, 178, 179, 180, 181, 182, 183, 184, 185, 186, 187, 188, 189, 190, 191, 192, 193, 194, 195, 196, 197, 198, 199, 200, 201, 202, 203, 204, 205, 206, 207, 208, 209, 210, 211, 212, 213, 214, 215, 216, 217, 218, 219] (by decide +kernel) (by decide +kernel)
set_option maxRecDepth 20000 in
theorem gX11_weak_X11_isLine : GoodIn wsX11_weak (wsV RX11 290 RX11 yX11_isLine wsX11_isLine) := goodIn_app (goodIn_of _ (by decide +kernel)) ggX11_weak_X11_isLine
theorem dX11_weak_0 : decode cX11_weak 0 = .ok (.aload_n 0, 1) := by decide +kernel
theorem dX11_weak_1 : decode cX11_weak 1 = .ok (.iconst 0, 1) := by decide +kernel
theorem dX11_weak_2 : decode cX11_weak 2 = .ok (.putfield 120, 3) := by decide +kernel
theorem dX11_weak_5 : decode cX11_weak 5 = .ok (.aload_n 0, 1) := by decide +kernel
theorem dX11_weak_6 : decode cX11_weak 6 = .ok (.invokevirtual 290, 3) := by decide +kernel
theorem dX11_weak_9 : decode cX11_weak 9 = .ok (.ifCond .eq 15, 3) := by decide +kernel
theorem dX11_weak_12 : decode cX11_weak 12 = .ok (.iload_n 1, 1) := by decide +kernel
theorem dX11_weak_13 : decode cX11_weak 13 = .ok (.i2l, 1) := by decide +kernel
theorem dX11_weak_14 : decode cX11_weak 14 = .ok (.lconst 0, 1) := by decide +kernel
theorem dX11_weak_15 : decode cX11_weak 15 = .ok (.ldc2_w 476, 3) := by decide +kernel
theorem dX11_weak_18 : decode cX11_weak 18 = .ok (.invokestatic 125, 3) := by decide +kernel
theorem dX11_weak_21 : decode cX11_weak 21 = .ok (.ifCond .ne 6, 3) := by decide +kernel
theorem dX11_weak_24 : decode cX11_weak 24 = .ok (.bipush (-2), 2) := by decide +kernel
theorem dX11_weak_26 : decode cX11_weak 26 = .ok (.ireturn, 1) := by decide +kernel
theorem dX11_weak_27 : decode cX11_weak 27 = .ok (.aload_n 0, 1) := by decide +kernel
theorem dX11_weak_28 : decode cX11_weak 28 = .ok (.invokevirtual 455, 3) := by decide +kernel
theorem dX11_weak_31 : decode cX11_weak 31 = .ok (.iconst 0, 1) := by decide +kernel
theorem dX11_weak_32 : decode cX11_weak 32 = .ok (.istore_n 2, 1) := by decide +kernel
theorem dX11_weak_33 : decode cX11_weak 33 = .ok (.iconst 0, 1) := by decide +kernel
theorem dX11_weak_34 : decode cX11_weak 34 = .ok (.istore_n 3, 1) := by decide +kernel
theorem dX11_weak_35 : decode cX11_weak 35 = .ok (.iload_n 3, 1) := by decide +kernel
theorem dX11_weak_36 : decode cX11_weak 36 = .ok (.aload_n 0, 1) := by decide +kernel
theorem dX11_weak_37 : decode cX11_weak 37 = .ok (.getfield 40, 3) := by decide +kernel
theorem dX11_weak_40 : decode cX11_weak 40 = .ok (.bipush 6, 2) := by decide +kernel
theorem dX11_weak_42 : decode cX11_weak 42 = .ok (.iaload, 1) := by decide +kernel
theorem dX11_weak_43 : decode cX11_weak 43 = .ok (.if_icmp .ge 43, 3) := by decide +kernel
theorem dX11_weak_46 : decode cX11_weak 46 = .ok (.iconst 0, 1) := by decide +kernel
theorem dX11_weak_47 : decode cX11_weak 47 = .ok (.istore 4, 2) := by decide +kernel
theorem dX11_weak_49 : decode cX11_weak 49 = .ok (.iload 4, 2) := by decide +kernel
theorem dX11_weak_51 : decode cX11_weak 51 = .ok (.iconst 3, 1) := by decide +kernel
theorem dX11_weak_52 : decode cX11_weak 52 = .ok (.if_icmp .ge 28, 3) := by decide +kernel
theorem dX11_weak_55 : decode cX11_weak 55 = .ok (.iload_n 2, 1) := by decide +kernel
theorem dX11_weak_56 : decode cX11_weak 56 = .ok (.aload_n 0, 1) := by decide +kernel
theorem dX11_weak_57 : decode cX11_weak 57 = .ok (.iload_n 3, 1) := by decide +kernel
theorem dX11_weak_58 : decode cX11_weak 58 = .ok (.iload 4, 2) := by decide +kernel
theorem dX11_weak_60 : decode cX11_weak 60 = .ok (.iload_n 1, 1) := by decide +kernel
theorem dX11_weak_61 : decode cX11_weak 61 = .ok (.invokevirtual 478, 3) := by decide +kernel
theorem dX11_weak_64 : decode cX11_weak 64 = .ok (.ifCond .eq 7, 3) := by decide +kernel
theorem dX11_weak_67 : decode cX11_weak 67 = .ok (.iconst 1, 1) := by decide +kernel
theorem dX11_weak_68 : decode cX11_weak 68 = .ok (.goto 4, 3) := by decide +kernel
theorem dX11_weak_71 : decode cX11_weak 71 = .ok (.iconst 0, 1) := by decide +kernel
theorem dX11_weak_72 : decode cX11_weak 72 = .ok (.iadd, 1) := by decide +kernel
theorem dX11_weak_73 : decode cX11_weak 73 = .ok (.istore_n 2, 1) := by decide +kernel
theorem dX11_weak_74 : decode cX11_weak 74 = .ok (.iinc 4 1, 3) := by decide +kernel
theorem dX11_weak_77 : decode cX11_weak 77 = .ok (.goto (-28), 3) := by decide +kernel
theorem dX11_weak_80 : decode cX11_weak 80 = .ok (.iinc 3 1, 3) := by decide +kernel
theorem dX11_weak_83 : decode cX11_weak 83 = .ok (.goto (-48), 3) := by decide +kernel
theorem dX11_weak_86 : decode cX11_weak 86 = .ok (.iload_n 2, 1) := by decide +kernel
theorem dX11_weak_87 : decode cX11_weak 87 = .ok (.ireturn, 1) := by decide +kernel
set_option maxRecDepth 20000 in
theorem ggX11_start_X11_isTrain : GoodIn wsX11_start wsX11_isTrain := goodIn_r _ [8, 9, 10, 11, 7, 12, 157, 158, 159, 160, 161, 162, 163, 164, 165, 166, 167, 168, 169, 170, 171, 172, 173, 174, 175, 176, 177, 178, 179, 180, 181, 182, 183, 184, 185, 186, 187, 188, 189, 190, 191, 192, 193, 194, 195, 196, 197, 198, 199, 200, 201, 202, 203, 204, 205, 206, 207, 208, 209, 210, 211, 212, 213, 214] (by decide +kernel) (by decide +kernel)
set_option maxRecDepth 20000 in
theorem gX11_start_X11_isTrain : GoodIn wsX11_start (wsV RX11 314 RX11 yX11_isTrain wsX11_isTrain) := goodIn_app (goodIn_of _ (by decide +kernel)) ggX11_start_X11_isTrain
theorem dX11_start_0 : decode cX11_start 0 = .ok (.aload_n 0, 1) := by decide +kernel
theorem dX11_start_1 : decode cX11_start 1 = .ok (.iconst 0, 1) := by decide +kernel
theorem dX11_start_2 : decode cX11_start 2 = .ok (.putfield 120, 3) := by decide +kernel
theorem dX11_start_5 : decode cX11_start 5 = .ok (.aload_n 0, 1) := by decide +kernel
theorem dX11_start_6 : decode cX11_start 6 = .ok (.iload_n 1, 1) := by decide +kernel
theorem dX11_start_7 : decode cX11_start 7 = .ok (.invokevirtual 314, 3) := by decide +kernel
theorem dX11_start_10 : decode cX11_start 10 = .ok (.ifCond .ne 6, 3) := by decide +kernel
theorem dX11_start_13 : decode cX11_start 13 = .ok (.bipush (-2), 2) := by decide +kernel
theorem dX11_start_15 : decode cX11_start 15 = .ok (.ireturn, 1) := by decide +kernel
theorem dX11_start_16 : decode cX11_start 16 = .ok (.aload_n 0, 1) := by decide +kernel
theorem dX11_start_17 : decode cX11_start 17 = .ok (.invokevirtual 455, 3) := by decide +kernel
theorem dX11_start_20 : decode cX11_start 20 = .ok (.aload_n 0, 1) := by decide +kernel
theorem dX11_start_21 : decode cX11_start 21 = .ok (.invokevirtual 458, 3) := by decide +kernel
theorem dX11_start_24 : decode cX11_start 24 = .ok (.aload_n 0, 1) := by decide +kernel
theorem dX11_start_25 : decode cX11_start 25 = .ok (.getfield 58, 3) := by decide +kernel
theorem dX11_start_28 : decode cX11_start 28 = .ok (.iconst 3, 1) := by decide +kernel
theorem dX11_start_29 : decode cX11_start 29 = .ok (.iload_n 1, 1) := by decide +kernel
theorem dX11_start_30 : decode cX11_start 30 = .ok (.imul, 1) := by decide +kernel
theorem dX11_start_31 : decode cX11_start 31 = .ok (.iaload, 1) := by decide +kernel
theorem dX11_start_32 : decode cX11_start 32 = .ok (.istore_n 2, 1) := by decide +kernel
theorem dX11_start_33 : decode cX11_start 33 = .ok (.iconst (-1), 1) := by decide +kernel
theorem dX11_start_34 : decode cX11_start 34 = .ok (.istore_n 3, 1) := by decide +kernel
theorem dX11_start_35 : decode cX11_start 35 = .ok (.iconst 0, 1) := by decide +kernel
theorem dX11_start_36 : decode cX11_start 36 = .ok (.istore 4, 2) := by decide +kernel
theorem dX11_start_38 : decode cX11_start 38 = .ok (.iload 4, 2) := by decide +kernel
theorem dX11_start_40 : decode cX11_start 40 = .ok (.sipush 300, 3) := by decide +kernel
theorem dX11_start_43 : decode cX11_start 43 = .ok (.if_icmp .gt 43, 3) := by decide +kernel
theorem dX11_start_46 : decode cX11_start 46 = .ok (.iload_n 3, 1) := by decide +kernel
theorem dX11_start_47 : decode cX11_start 47 = .ok (.iconst (-1), 1) := by decide +kernel
theorem dX11_start_48 : decode cX11_start 48 = .ok (.if_icmp .ne 38, 3) := by decide +kernel
theorem dX11_start_51 : decode cX11_start 51 = .ok (.aload_n 0, 1) := by decide +kernel
theorem dX11_start_52 : decode cX11_start 52 = .ok (.getfield 58, 3) := by decide +kernel
theorem dX11_start_55 : decode cX11_start 55 = .ok (.iconst 3, 1) := by decide +kernel
theorem dX11_start_56 : decode cX11_start 56 = .ok (.iload_n 1, 1) := by decide +kernel
theorem dX11_start_57 : decode cX11_start 57 = .ok (.imul, 1) := by decide +kernel
theorem dX11_start_58 : decode cX11_start 58 = .ok (.iload 4, 2) := by decide +kernel
theorem dX11_start_60 : decode cX11_start 60 = .ok (.iastore, 1) := by decide +kernel
theorem dX11_start_61 : decode cX11_start 61 = .ok (.aload_n 0, 1) := by decide +kernel
theorem dX11_start_62 : decode cX11_start 62 = .ok (.invokevirtual 461, 3) := by decide +kernel
theorem dX11_start_65 : decode cX11_start 65 = .ok (.aload_n 0, 1) := by decide +kernel
theorem dX11_start_66 : decode cX11_start 66 = .ok (.getfield 401, 3) := by decide +kernel
theorem dX11_start_69 : decode cX11_start 69 = .ok (.iconst (-1), 1) := by decide +kernel
theorem dX11_start_70 : decode cX11_start 70 = .ok (.if_icmp .ne 8, 3) := by decide +kernel
theorem dX11_start_73 : decode cX11_start 73 = .ok (.iload 4, 2) := by decide +kernel
theorem dX11_start_75 : decode cX11_start 75 = .ok (.goto 4, 3) := by decide +kernel
theorem dX11_start_78 : decode cX11_start 78 = .ok (.iconst (-1), 1) := by decide +kernel
theorem dX11_start_79 : decode cX11_start 79 = .ok (.istore_n 3, 1) := by decide +kernel
theorem dX11_start_80 : decode cX11_start 80 = .ok (.iinc 4 1, 3) := by decide +kernel
theorem dX11_start_83 : decode cX11_start 83 = .ok (.goto (-45), 3) := by decide +kernel
theorem dX11_start_86 : decode cX11_start 86 = .ok (.aload_n 0, 1) := by decide +kernel
theorem dX11_start_87 : decode cX11_start 87 = .ok (.getfield 58, 3) := by decide +kernel
theorem dX11_start_90 : decode cX11_start 90 = .ok (.iconst 3, 1) := by decide +kernel
theorem dX11_start_91 : decode cX11_start 91 = .ok (.iload_n 1, 1) := by decide +kernel
theorem dX11_start_92 : decode cX11_start 92 = .ok (.imul, 1) := by decide +kernel
theorem dX11_start_93 : decode cX11_start 93 = .ok (.iload_n 2, 1) := by decide +kernel
theorem dX11_start_94 : decode cX11_start 94 = .ok (.iastore, 1) := by decide +kernel
theorem dX11_start_95 : decode cX11_start 95 = .ok (.iload_n 3, 1) := by decide +kernel
theorem dX11_start_96 : decode cX11_start 96 = .ok (.ireturn, 1) := by decide +kernel
set_option maxRecDepth 20000 in
theorem ggX11_shunts_X11_isTrain : GoodIn wsX11_shunts wsX11_isTrain := goodIn_r _ [8, 2, 9, 10, 7, 11, 32, 33, 34, 35, 36, 37, 38, 39, 40, 41, 42, 43, 44, 45, 46, 47, 48, 49, 50, 51, 52, 53, 54, 55, 56, 57, 58, 59, 60, 61, 62, 63, 64, 65, 66, 67, 68, 69, 70, 71, 72, 73, 74, 75, 76, 77, 78, 79, 80, 81, 82, 83, 84, 85, 86, 87, 88, 89] (by decide +kernel) (by decide +kernel)
set_option maxRecDepth 20000 in
theorem gX11_shunts_X11_isTrain : GoodIn wsX11_shunts (wsV RX11 314 RX11 yX11_isTrain wsX11_isTrain) := goodIn_app (goodIn_of _ (by decide +kernel)) ggX11_shunts_X11_isTrain
theorem dX11_shunts_0 : decode cX11_shunts 0 = .ok (.aload_n 0, 1) := by decide +kernel
theorem dX11_shunts_1 : decode cX11_shunts 1 = .ok (.iconst 0, 1) := by decide +kernel
theorem dX11_shunts_2 : decode cX11_shunts 2 = .ok (.putfield 120, 3) := by decide +kernel
theorem dX11_shunts_5 : decode cX11_shunts 5 = .ok (.aload_n 0, 1) := by decide +kernel
theorem dX11_shunts_6 : decode cX11_shunts 6 = .ok (.iload_n 1, 1) := by decide +kernel
theorem dX11_shunts_7 : decode cX11_shunts 7 = .ok (.invokevirtual 314, 3) := by decide +kernel
theorem dX11_shunts_10 : decode cX11_shunts 10 = .ok (.ifCond .eq 13, 3) := by decide +kernel
theorem dX11_shunts_13 : decode cX11_shunts 13 = .ok (.iload_n 2, 1) := by decide +kernel
theorem dX11_shunts_14 : decode cX11_shunts 14 = .ok (.i2l, 1) := by decide +kernel
theorem dX11_shunts_15 : decode cX11_shunts 15 = .ok (.lconst 0, 1) := by decide +kernel
theorem dX11_shunts_16 : decode cX11_shunts 16 = .ok (.lconst 1, 1) := by decide +kernel
theorem dX11_shunts_17 : decode cX11_shunts 17 = .ok (.invokestatic 125, 3) := by decide +kernel
theorem dX11_shunts_20 : decode cX11_shunts 20 = .ok (.ifCond .ne 6, 3) := by decide +kernel
theorem dX11_shunts_23 : decode cX11_shunts 23 = .ok (.bipush (-2), 2) := by decide +kernel
theorem dX11_shunts_25 : decode cX11_shunts 25 = .ok (.ireturn, 1) := by decide +kernel
theorem dX11_shunts_26 : decode cX11_shunts 26 = .ok (.iconst 0, 1) := by decide +kernel
theorem dX11_shunts_27 : decode cX11_shunts 27 = .ok (.istore_n 3, 1) := by decide +kernel
theorem dX11_shunts_28 : decode cX11_shunts 28 = .ok (.iconst 0, 1) := by decide +kernel
theorem dX11_shunts_29 : decode cX11_shunts 29 = .ok (.istore 4, 2) := by decide +kernel
theorem dX11_shunts_31 : decode cX11_shunts 31 = .ok (.iload 4, 2) := by decide +kernel
theorem dX11_shunts_33 : decode cX11_shunts 33 = .ok (.aload_n 0, 1) := by decide +kernel
theorem dX11_shunts_34 : decode cX11_shunts 34 = .ok (.getfield 40, 3) := by decide +kernel
theorem dX11_shunts_37 : decode cX11_shunts 37 = .ok (.bipush 6, 2) := by decide +kernel
theorem dX11_shunts_39 : decode cX11_shunts 39 = .ok (.iaload, 1) := by decide +kernel
theorem dX11_shunts_40 : decode cX11_shunts 40 = .ok (.if_icmp .ge 33, 3) := by decide +kernel
theorem dX11_shunts_43 : decode cX11_shunts 43 = .ok (.iload_n 3, 1) := by decide +kernel
theorem dX11_shunts_44 : decode cX11_shunts 44 = .ok (.aload_n 0, 1) := by decide +kernel
theorem dX11_shunts_45 : decode cX11_shunts 45 = .ok (.getfield 61, 3) := by decide +kernel
theorem dX11_shunts_48 : decode cX11_shunts 48 = .ok (.iconst 5, 1) := by decide +kernel
theorem dX11_shunts_49 : decode cX11_shunts 49 = .ok (.iload 4, 2) := by decide +kernel
theorem dX11_shunts_51 : decode cX11_shunts 51 = .ok (.imul, 1) := by decide +kernel
theorem dX11_shunts_52 : decode cX11_shunts 52 = .ok (.iaload, 1) := by decide +kernel
theorem dX11_shunts_53 : decode cX11_shunts 53 = .ok (.iload_n 1, 1) := by decide +kernel
theorem dX11_shunts_54 : decode cX11_shunts 54 = .ok (.if_icmp .ne 10, 3) := by decide +kernel
theorem dX11_shunts_57 : decode cX11_shunts 57 = .ok (.iconst 1, 1) := by decide +kernel
theorem dX11_shunts_58 : decode cX11_shunts 58 = .ok (.iload 4, 2) := by decide +kernel
theorem dX11_shunts_60 : decode cX11_shunts 60 = .ok (.ishl, 1) := by decide +kernel
theorem dX11_shunts_61 : decode cX11_shunts 61 = .ok (.goto 4, 3) := by decide +kernel
theorem dX11_shunts_64 : decode cX11_shunts 64 = .ok (.iconst 0, 1) := by decide +kernel
theorem dX11_shunts_65 : decode cX11_shunts 65 = .ok (.ior, 1) := by decide +kernel
theorem dX11_shunts_66 : decode cX11_shunts 66 = .ok (.istore_n 3, 1) := by decide +kernel
theorem dX11_shunts_67 : decode cX11_shunts 67 = .ok (.iinc 4 1, 3) := by decide +kernel
theorem dX11_shunts_70 : decode cX11_shunts 70 = .ok (.goto (-39), 3) := by decide +kernel
theorem dX11_shunts_73 : decode cX11_shunts 73 = .ok (.iconst (-1), 1) := by decide +kernel
theorem dX11_shunts_74 : decode cX11_shunts 74 = .ok (.istore 4, 2) := by decide +kernel
theorem dX11_shunts_76 : decode cX11_shunts 76 = .ok (.iconst 0, 1) := by decide +kernel
theorem dX11_shunts_77 : decode cX11_shunts 77 = .ok (.istore 5, 2) := by decide +kernel
theorem dX11_shunts_79 : decode cX11_shunts 79 = .ok (.iload 5, 2) := by decide +kernel
theorem dX11_shunts_81 : decode cX11_shunts 81 = .ok (.iload_n 3, 1) := by decide +kernel
theorem dX11_shunts_82 : decode cX11_shunts 82 = .ok (.if_icmp .gt 54, 3) := by decide +kernel
theorem dX11_shunts_85 : decode cX11_shunts 85 = .ok (.iload 5, 2) := by decide +kernel
theorem dX11_shunts_87 : decode cX11_shunts 87 = .ok (.iload_n 3, 1) := by decide +kernel
theorem dX11_shunts_88 : decode cX11_shunts 88 = .ok (.iconst (-1), 1) := by decide +kernel
theorem dX11_shunts_89 : decode cX11_shunts 89 = .ok (.ixor, 1) := by decide +kernel
theorem dX11_shunts_90 : decode cX11_shunts 90 = .ok (.iand, 1) := by decide +kernel
theorem dX11_shunts_91 : decode cX11_shunts 91 = .ok (.ifCond .ne 39, 3) := by decide +kernel
theorem dX11_shunts_94 : decode cX11_shunts 94 = .ok (.iload 4, 2) := by decide +kernel
theorem dX11_shunts_96 : decode cX11_shunts 96 = .ok (.iconst (-1), 1) := by decide +kernel
theorem dX11_shunts_97 : decode cX11_shunts 97 = .ok (.if_icmp .eq 16, 3) := by decide +kernel
theorem dX11_shunts_100 : decode cX11_shunts 100 = .ok (.iload 5, 2) := by decide +kernel
theorem dX11_shunts_102 : decode cX11_shunts 102 = .ok (.invokestatic 473, 3) := by decide +kernel
theorem dX11_shunts_105 : decode cX11_shunts 105 = .ok (.iload 4, 2) := by decide +kernel
theorem dX11_shunts_107 : decode cX11_shunts 107 = .ok (.invokestatic 473, 3) := by decide +kernel
theorem dX11_shunts_110 : decode cX11_shunts 110 = .ok (.if_icmp .ge 20, 3) := by decide +kernel
theorem dX11_shunts_113 : decode cX11_shunts 113 = .ok (.aload_n 0, 1) := by decide +kernel
theorem dX11_shunts_114 : decode cX11_shunts 114 = .ok (.iload_n 1, 1) := by decide +kernel
theorem dX11_shunts_115 : decode cX11_shunts 115 = .ok (.iload 5, 2) := by decide +kernel
theorem dX11_shunts_117 : decode cX11_shunts 117 = .ok (.invokevirtual 484, 3) := by decide +kernel
theorem dX11_shunts_120 : decode cX11_shunts 120 = .ok (.ifCond .ne 6, 3) := by decide +kernel
theorem dX11_shunts_123 : decode cX11_shunts 123 = .ok (.goto 7, 3) := by decide +kernel
theorem dX11_shunts_126 : decode cX11_shunts 126 = .ok (.iload 5, 2) := by decide +kernel
theorem dX11_shunts_128 : decode cX11_shunts 128 = .ok (.istore 4, 2) := by decide +kernel
theorem dX11_shunts_130 : decode cX11_shunts 130 = .ok (.iinc 5 1, 3) := by decide +kernel
theorem dX11_shunts_133 : decode cX11_shunts 133 = .ok (.goto (-54), 3) := by decide +kernel
theorem dX11_shunts_136 : decode cX11_shunts 136 = .ok (.iload_n 2, 1) := by decide +kernel
theorem dX11_shunts_137 : decode cX11_shunts 137 = .ok (.iconst 1, 1) := by decide +kernel
theorem dX11_shunts_138 : decode cX11_shunts 138 = .ok (.if_icmp .ne 8, 3) := by decide +kernel
theorem dX11_shunts_141 : decode cX11_shunts 141 = .ok (.iload 4, 2) := by decide +kernel
theorem dX11_shunts_143 : decode cX11_shunts 143 = .ok (.goto 8, 3) := by decide +kernel
theorem dX11_shunts_146 : decode cX11_shunts 146 = .ok (.iload 4, 2) := by decide +kernel
theorem dX11_shunts_148 : decode cX11_shunts 148 = .ok (.invokestatic 473, 3) := by decide +kernel
theorem dX11_shunts_151 : decode cX11_shunts 151 = .ok (.ireturn, 1) := by decide +kernel
set_option maxRecDepth 20000 in
theorem ggX11_order_X11_isTrain : GoodIn wsX11_order wsX11_isTrain := goodIn_r _ [8, 2, 9, 10, 7, 11, 25, 26, 27, 28, 29, 30, 31, 32, 33, 34, 35, 36, 37, 38, 39, 40, 41, 42, 43, 44, 45, 46, 47, 48, 49, 50, 51, 52, 53, 54, 55, 56, 57, 58, 59, 60, 61, 62, 63, 64, 65, 66, 67, 68, 69, 70, 71, 72, 73, 74, 75, 76, 77, 78, 79, 80, 81, 82] (by decide +kernel) (by decide +kernel)
set_option maxRecDepth 20000 in
theorem gX11_order_X11_isTrain : GoodIn wsX11_order (wsV RX11 314 RX11 yX11_isTrain wsX11_isTrain) := goodIn_app (goodIn_of _ (by decide +kernel)) ggX11_order_X11_isTrain
theorem dX11_order_0 : decode cX11_order 0 = .ok (.aload_n 0, 1) := by decide +kernel
theorem dX11_order_1 : decode cX11_order 1 = .ok (.iconst 0, 1) := by decide +kernel
theorem dX11_order_2 : decode cX11_order 2 = .ok (.putfield 120, 3) := by decide +kernel
theorem dX11_order_5 : decode cX11_order 5 = .ok (.aload_n 0, 1) := by decide +kernel
theorem dX11_order_6 : decode cX11_order 6 = .ok (.iload_n 1, 1) := by decide +kernel
theorem dX11_order_7 : decode cX11_order 7 = .ok (.invokevirtual 314, 3) := by decide +kernel
theorem dX11_order_10 : decode cX11_order 10 = .ok (.ifCond .ne 6, 3) := by decide +kernel
theorem dX11_order_13 : decode cX11_order 13 = .ok (.bipush (-2), 2) := by decide +kernel
theorem dX11_order_15 : decode cX11_order 15 = .ok (.ireturn, 1) := by decide +kernel
theorem dX11_order_16 : decode cX11_order 16 = .ok (.aload_n 0, 1) := by decide +kernel
theorem dX11_order_17 : decode cX11_order 17 = .ok (.iload_n 1, 1) := by decide +kernel
theorem dX11_order_18 : decode cX11_order 18 = .ok (.invokevirtual 410, 3) := by decide +kernel
theorem dX11_order_21 : decode cX11_order 21 = .ok (.istore_n 3, 1) := by decide +kernel
theorem dX11_order_22 : decode cX11_order 22 = .ok (.iconst 0, 1) := by decide +kernel
theorem dX11_order_23 : decode cX11_order 23 = .ok (.istore 4, 2) := by decide +kernel
theorem dX11_order_25 : decode cX11_order 25 = .ok (.iload 4, 2) := by decide +kernel
theorem dX11_order_27 : decode cX11_order 27 = .ok (.aload_n 0, 1) := by decide +kernel
theorem dX11_order_28 : decode cX11_order 28 = .ok (.getfield 40, 3) := by decide +kernel
theorem dX11_order_31 : decode cX11_order 31 = .ok (.bipush 6, 2) := by decide +kernel
theorem dX11_order_33 : decode cX11_order 33 = .ok (.iaload, 1) := by decide +kernel
theorem dX11_order_34 : decode cX11_order 34 = .ok (.if_icmp .ge 126, 3) := by decide +kernel
theorem dX11_order_37 : decode cX11_order 37 = .ok (.aload_n 0, 1) := by decide +kernel
theorem dX11_order_38 : decode cX11_order 38 = .ok (.getfield 61, 3) := by decide +kernel
theorem dX11_order_41 : decode cX11_order 41 = .ok (.iconst 5, 1) := by decide +kernel
theorem dX11_order_42 : decode cX11_order 42 = .ok (.iload 4, 2) := by decide +kernel
theorem dX11_order_44 : decode cX11_order 44 = .ok (.imul, 1) := by decide +kernel
theorem dX11_order_45 : decode cX11_order 45 = .ok (.iaload, 1) := by decide +kernel
theorem dX11_order_46 : decode cX11_order 46 = .ok (.iload_n 1, 1) := by decide +kernel
theorem dX11_order_47 : decode cX11_order 47 = .ok (.if_icmp .eq 6, 3) := by decide +kernel
theorem dX11_order_50 : decode cX11_order 50 = .ok (.goto 104, 3) := by decide +kernel
theorem dX11_order_53 : decode cX11_order 53 = .ok (.iconst 0, 1) := by decide +kernel
theorem dX11_order_54 : decode cX11_order 54 = .ok (.istore 5, 2) := by decide +kernel
theorem dX11_order_56 : decode cX11_order 56 = .ok (.iconst 0, 1) := by decide +kernel
theorem dX11_order_57 : decode cX11_order 57 = .ok (.istore 6, 2) := by decide +kernel
theorem dX11_order_59 : decode cX11_order 59 = .ok (.iload 6, 2) := by decide +kernel
theorem dX11_order_61 : decode cX11_order 61 = .ok (.iload_n 3, 1) := by decide +kernel
theorem dX11_order_62 : decode cX11_order 62 = .ok (.if_icmp .ge 83, 3) := by decide +kernel
theorem dX11_order_65 : decode cX11_order 65 = .ok (.aload_n 0, 1) := by decide +kernel
theorem dX11_order_66 : decode cX11_order 66 = .ok (.iload_n 1, 1) := by decide +kernel
theorem dX11_order_67 : decode cX11_order 67 = .ok (.iload 6, 2) := by decide +kernel
theorem dX11_order_69 : decode cX11_order 69 = .ok (.invokevirtual 396, 3) := by decide +kernel
theorem dX11_order_72 : decode cX11_order 72 = .ok (.istore 7, 2) := by decide +kernel
theorem dX11_order_74 : decode cX11_order 74 = .ok (.iload 5, 2) := by decide +kernel
theorem dX11_order_76 : decode cX11_order 76 = .ok (.aload_n 0, 1) := by decide +kernel
theorem dX11_order_77 : decode cX11_order 77 = .ok (.iload 7, 2) := by decide +kernel
theorem dX11_order_79 : decode cX11_order 79 = .ok (.invokevirtual 481, 3) := by decide +kernel
theorem dX11_order_82 : decode cX11_order 82 = .ok (.aload_n 0, 1) := by decide +kernel
theorem dX11_order_83 : decode cX11_order 83 = .ok (.iload 4, 2) := by decide +kernel
theorem dX11_order_85 : decode cX11_order 85 = .ok (.invokevirtual 481, 3) := by decide +kernel
theorem dX11_order_88 : decode cX11_order 88 = .ok (.if_icmp .gt 43, 3) := by decide +kernel
theorem dX11_order_91 : decode cX11_order 91 = .ok (.aload_n 0, 1) := by decide +kernel
theorem dX11_order_92 : decode cX11_order 92 = .ok (.iload 7, 2) := by decide +kernel
theorem dX11_order_94 : decode cX11_order 94 = .ok (.invokevirtual 481, 3) := by decide +kernel
theorem dX11_order_97 : decode cX11_order 97 = .ok (.aload_n 0, 1) := by decide +kernel
theorem dX11_order_98 : decode cX11_order 98 = .ok (.iload 4, 2) := by decide +kernel
theorem dX11_order_100 : decode cX11_order 100 = .ok (.invokevirtual 481, 3) := by decide +kernel
theorem dX11_order_103 : decode cX11_order 103 = .ok (.if_icmp .ne 32, 3) := by decide +kernel
theorem dX11_order_106 : decode cX11_order 106 = .ok (.aload_n 0, 1) := by decide +kernel
theorem dX11_order_107 : decode cX11_order 107 = .ok (.getfield 61, 3) := by decide +kernel
theorem dX11_order_110 : decode cX11_order 110 = .ok (.iconst 5, 1) := by decide +kernel
theorem dX11_order_111 : decode cX11_order 111 = .ok (.iload 7, 2) := by decide +kernel
theorem dX11_order_113 : decode cX11_order 113 = .ok (.imul, 1) := by decide +kernel
theorem dX11_order_114 : decode cX11_order 114 = .ok (.iconst 4, 1) := by decide +kernel
theorem dX11_order_115 : decode cX11_order 115 = .ok (.iadd, 1) := by decide +kernel
theorem dX11_order_116 : decode cX11_order 116 = .ok (.iaload, 1) := by decide +kernel
theorem dX11_order_117 : decode cX11_order 117 = .ok (.aload_n 0, 1) := by decide +kernel
theorem dX11_order_118 : decode cX11_order 118 = .ok (.getfield 61, 3) := by decide +kernel
theorem dX11_order_121 : decode cX11_order 121 = .ok (.iconst 5, 1) := by decide +kernel
theorem dX11_order_122 : decode cX11_order 122 = .ok (.iload 4, 2) := by decide +kernel
theorem dX11_order_124 : decode cX11_order 124 = .ok (.imul, 1) := by decide +kernel
theorem dX11_order_125 : decode cX11_order 125 = .ok (.iconst 4, 1) := by decide +kernel
theorem dX11_order_126 : decode cX11_order 126 = .ok (.iadd, 1) := by decide +kernel
theorem dX11_order_127 : decode cX11_order 127 = .ok (.iaload, 1) := by decide +kernel
theorem dX11_order_128 : decode cX11_order 128 = .ok (.if_icmp .ge 7, 3) := by decide +kernel
theorem dX11_order_131 : decode cX11_order 131 = .ok (.iconst 1, 1) := by decide +kernel
theorem dX11_order_132 : decode cX11_order 132 = .ok (.goto 4, 3) := by decide +kernel
theorem dX11_order_135 : decode cX11_order 135 = .ok (.iconst 0, 1) := by decide +kernel
theorem dX11_order_136 : decode cX11_order 136 = .ok (.iadd, 1) := by decide +kernel
theorem dX11_order_137 : decode cX11_order 137 = .ok (.istore 5, 2) := by decide +kernel
theorem dX11_order_139 : decode cX11_order 139 = .ok (.iinc 6 1, 3) := by decide +kernel
theorem dX11_order_142 : decode cX11_order 142 = .ok (.goto (-83), 3) := by decide +kernel
theorem dX11_order_145 : decode cX11_order 145 = .ok (.iload 5, 2) := by decide +kernel
theorem dX11_order_147 : decode cX11_order 147 = .ok (.iload_n 2, 1) := by decide +kernel
theorem dX11_order_148 : decode cX11_order 148 = .ok (.if_icmp .ne 6, 3) := by decide +kernel
theorem dX11_order_151 : decode cX11_order 151 = .ok (.iload 4, 2) := by decide +kernel
theorem dX11_order_153 : decode cX11_order 153 = .ok (.ireturn, 1) := by decide +kernel
theorem dX11_order_154 : decode cX11_order 154 = .ok (.iinc 4 1, 3) := by decide +kernel
theorem dX11_order_157 : decode cX11_order 157 = .ok (.goto (-132), 3) := by decide +kernel
theorem dX11_order_160 : decode cX11_order 160 = .ok (.iconst (-1), 1) := by decide +kernel
theorem dX11_order_161 : decode cX11_order 161 = .ok (.ireturn, 1) := by decide +kernel
set_option maxRecDepth 20000 in
theorem ggX11_blocked_X11_isTrain : GoodIn wsX11_blocked wsX11_isTrain := goodIn_r _ [7, 8, 9, 10, 6, 11, 20, 21, 22, 23, 24, 25, 26, 27, 28, 29, 30, 31, 32, 33, 34, 35, 36, 37, 38, 39, 40, 41, 42, 43, 44, 45, 46, 47, 48, 49, 50, 51, 52, 53, 54, 55, 56, 57, 58, 59, 60, 61, 62, 63, 64, 65, 66, 67, 68, 69, 70, 71, 72, 73, 74, 75, 76, 77] (by decide +kernel) (by decide +kernel)
set_option maxRecDepth 20000 in
theorem gX11_blocked_X11_isTrain : GoodIn wsX11_blocked (wsV RX11 314 RX11 yX11_isTrain wsX11_isTrain) := goodIn_app (goodIn_of _ (by decide +kernel)) ggX11_blocked_X11_isTrain
theorem dX11_blocked_0 : decode cX11_blocked 0 = .ok (.aload_n 0, 1) := by decide +kernel
theorem dX11_blocked_1 : decode cX11_blocked 1 = .ok (.iconst 0, 1) := by decide +kernel
theorem dX11_blocked_2 : decode cX11_blocked 2 = .ok (.putfield 120, 3) := by decide +kernel
theorem dX11_blocked_5 : decode cX11_blocked 5 = .ok (.aload_n 0, 1) := by decide +kernel
theorem dX11_blocked_6 : decode cX11_blocked 6 = .ok (.iload_n 1, 1) := by decide +kernel
theorem dX11_blocked_7 : decode cX11_blocked 7 = .ok (.invokevirtual 314, 3) := by decide +kernel
theorem dX11_blocked_10 : decode cX11_blocked 10 = .ok (.ifCond .ne 6, 3) := by decide +kernel
theorem dX11_blocked_13 : decode cX11_blocked 13 = .ok (.bipush (-2), 2) := by decide +kernel
theorem dX11_blocked_15 : decode cX11_blocked 15 = .ok (.ireturn, 1) := by decide +kernel
theorem dX11_blocked_16 : decode cX11_blocked 16 = .ok (.iconst (-1), 1) := by decide +kernel
theorem dX11_blocked_17 : decode cX11_blocked 17 = .ok (.istore_n 2, 1) := by decide +kernel
theorem dX11_blocked_18 : decode cX11_blocked 18 = .ok (.aload_n 0, 1) := by decide +kernel
theorem dX11_blocked_19 : decode cX11_blocked 19 = .ok (.iload_n 1, 1) := by decide +kernel
theorem dX11_blocked_20 : decode cX11_blocked 20 = .ok (.invokevirtual 410, 3) := by decide +kernel
theorem dX11_blocked_23 : decode cX11_blocked 23 = .ok (.iconst 1, 1) := by decide +kernel
theorem dX11_blocked_24 : decode cX11_blocked 24 = .ok (.isub, 1) := by decide +kernel
theorem dX11_blocked_25 : decode cX11_blocked 25 = .ok (.istore_n 3, 1) := by decide +kernel
theorem dX11_blocked_26 : decode cX11_blocked 26 = .ok (.iload_n 3, 1) := by decide +kernel
theorem dX11_blocked_27 : decode cX11_blocked 27 = .ok (.ifCond .lt 66, 3) := by decide +kernel
theorem dX11_blocked_30 : decode cX11_blocked 30 = .ok (.aload_n 0, 1) := by decide +kernel
theorem dX11_blocked_31 : decode cX11_blocked 31 = .ok (.iload_n 1, 1) := by decide +kernel
theorem dX11_blocked_32 : decode cX11_blocked 32 = .ok (.iload_n 3, 1) := by decide +kernel
theorem dX11_blocked_33 : decode cX11_blocked 33 = .ok (.invokevirtual 396, 3) := by decide +kernel
theorem dX11_blocked_36 : decode cX11_blocked 36 = .ok (.istore 4, 2) := by decide +kernel
theorem dX11_blocked_38 : decode cX11_blocked 38 = .ok (.aload_n 0, 1) := by decide +kernel
theorem dX11_blocked_39 : decode cX11_blocked 39 = .ok (.getfield 61, 3) := by decide +kernel
theorem dX11_blocked_42 : decode cX11_blocked 42 = .ok (.iconst 5, 1) := by decide +kernel
theorem dX11_blocked_43 : decode cX11_blocked 43 = .ok (.iload 4, 2) := by decide +kernel
theorem dX11_blocked_45 : decode cX11_blocked 45 = .ok (.imul, 1) := by decide +kernel
theorem dX11_blocked_46 : decode cX11_blocked 46 = .ok (.iconst 3, 1) := by decide +kernel
theorem dX11_blocked_47 : decode cX11_blocked 47 = .ok (.iadd, 1) := by decide +kernel
theorem dX11_blocked_48 : decode cX11_blocked 48 = .ok (.iaload, 1) := by decide +kernel
theorem dX11_blocked_49 : decode cX11_blocked 49 = .ok (.iload_n 2, 1) := by decide +kernel
theorem dX11_blocked_50 : decode cX11_blocked 50 = .ok (.if_icmp .ge 6, 3) := by decide +kernel
theorem dX11_blocked_53 : decode cX11_blocked 53 = .ok (.iload 4, 2) := by decide +kernel
theorem dX11_blocked_55 : decode cX11_blocked 55 = .ok (.ireturn, 1) := by decide +kernel
theorem dX11_blocked_56 : decode cX11_blocked 56 = .ok (.aload_n 0, 1) := by decide +kernel
theorem dX11_blocked_57 : decode cX11_blocked 57 = .ok (.getfield 61, 3) := by decide +kernel
theorem dX11_blocked_60 : decode cX11_blocked 60 = .ok (.iconst 5, 1) := by decide +kernel
theorem dX11_blocked_61 : decode cX11_blocked 61 = .ok (.iload 4, 2) := by decide +kernel
theorem dX11_blocked_63 : decode cX11_blocked 63 = .ok (.imul, 1) := by decide +kernel
theorem dX11_blocked_64 : decode cX11_blocked 64 = .ok (.iconst 3, 1) := by decide +kernel
theorem dX11_blocked_65 : decode cX11_blocked 65 = .ok (.iadd, 1) := by decide +kernel
theorem dX11_blocked_66 : decode cX11_blocked 66 = .ok (.iaload, 1) := by decide +kernel
theorem dX11_blocked_67 : decode cX11_blocked 67 = .ok (.iload_n 2, 1) := by decide +kernel
theorem dX11_blocked_68 : decode cX11_blocked 68 = .ok (.if_icmp .le 17, 3) := by decide +kernel
theorem dX11_blocked_71 : decode cX11_blocked 71 = .ok (.aload_n 0, 1) := by decide +kernel
theorem dX11_blocked_72 : decode cX11_blocked 72 = .ok (.getfield 61, 3) := by decide +kernel
theorem dX11_blocked_75 : decode cX11_blocked 75 = .ok (.iconst 5, 1) := by decide +kernel
theorem dX11_blocked_76 : decode cX11_blocked 76 = .ok (.iload 4, 2) := by decide +kernel
theorem dX11_blocked_78 : decode cX11_blocked 78 = .ok (.imul, 1) := by decide +kernel
theorem dX11_blocked_79 : decode cX11_blocked 79 = .ok (.iconst 3, 1) := by decide +kernel
theorem dX11_blocked_80 : decode cX11_blocked 80 = .ok (.iadd, 1) := by decide +kernel
theorem dX11_blocked_81 : decode cX11_blocked 81 = .ok (.iaload, 1) := by decide +kernel
theorem dX11_blocked_82 : decode cX11_blocked 82 = .ok (.goto 4, 3) := by decide +kernel
theorem dX11_blocked_85 : decode cX11_blocked 85 = .ok (.iload_n 2, 1) := by decide +kernel
theorem dX11_blocked_86 : decode cX11_blocked 86 = .ok (.istore_n 2, 1) := by decide +kernel
theorem dX11_blocked_87 : decode cX11_blocked 87 = .ok (.iinc 3 (-1), 3) := by decide +kernel
theorem dX11_blocked_90 : decode cX11_blocked 90 = .ok (.goto (-64), 3) := by decide +kernel
theorem dX11_blocked_93 : decode cX11_blocked 93 = .ok (.iconst (-1), 1) := by decide +kernel
theorem dX11_blocked_94 : decode cX11_blocked 94 = .ok (.ireturn, 1) := by decide +kernel
set_option maxRecDepth 20000 in
theorem ggX11_saved_X11_isTrain : GoodIn wsX11_saved wsX11_isTrain := goodIn_r _ [10, 4, 11, 12, 9, 13, 166, 167, 168, 169, 170, 171, 172, 173, 174, 175, 176, 177, 178, 179, 180, 181, 182, 183, 184, 185, 186, 187, 188, 189, 190, 191, 192, 193, 194, 195, 196, 197, 198, 199, 200, 201, 202, 203, 204, 205, 206, 207, 208, 209, 210, 211, 212, 213, 214, 215, 216, 217, 218, 219, 220, 221, 222, 223] (by decide +kernel) (by decide +kernel)
set_option maxRecDepth 20000 in
theorem gX11_saved_X11_isTrain : GoodIn wsX11_saved (wsV RX11 314 RX11 yX11_isTrain wsX11_isTrain) := goodIn_app (goodIn_of _ (by decide +kernel)) ggX11_saved_X11_isTrain
theorem dX11_saved_0 : decode cX11_saved 0 = .ok (.aload_n 0, 1) := by decide +kernel
theorem dX11_saved_1 : decode cX11_saved 1 = .ok (.iconst 0, 1) := by decide +kernel
theorem dX11_saved_2 : decode cX11_saved 2 = .ok (.putfield 120, 3) := by decide +kernel
theorem dX11_saved_5 : decode cX11_saved 5 = .ok (.aload_n 0, 1) := by decide +kernel
theorem dX11_saved_6 : decode cX11_saved 6 = .ok (.iload_n 1, 1) := by decide +kernel
theorem dX11_saved_7 : decode cX11_saved 7 = .ok (.invokevirtual 314, 3) := by decide +kernel
theorem dX11_saved_10 : decode cX11_saved 10 = .ok (.ifCond .eq 15, 3) := by decide +kernel
theorem dX11_saved_13 : decode cX11_saved 13 = .ok (.iload_n 2, 1) := by decide +kernel
theorem dX11_saved_14 : decode cX11_saved 14 = .ok (.i2l, 1) := by decide +kernel
theorem dX11_saved_15 : decode cX11_saved 15 = .ok (.lconst 0, 1) := by decide +kernel
theorem dX11_saved_16 : decode cX11_saved 16 = .ok (.ldc2_w 476, 3) := by decide +kernel
theorem dX11_saved_19 : decode cX11_saved 19 = .ok (.invokestatic 125, 3) := by decide +kernel
theorem dX11_saved_22 : decode cX11_saved 22 = .ok (.ifCond .ne 7, 3) := by decide +kernel
theorem dX11_saved_25 : decode cX11_saved 25 = .ok (.ldc_w 389, 3) := by decide +kernel
theorem dX11_saved_28 : decode cX11_saved 28 = .ok (.ireturn, 1) := by decide +kernel
theorem dX11_saved_29 : decode cX11_saved 29 = .ok (.iconst 0, 1) := by decide +kernel
theorem dX11_saved_30 : decode cX11_saved 30 = .ok (.istore_n 3, 1) := by decide +kernel
theorem dX11_saved_31 : decode cX11_saved 31 = .ok (.iconst 0, 1) := by decide +kernel
theorem dX11_saved_32 : decode cX11_saved 32 = .ok (.istore 4, 2) := by decide +kernel
theorem dX11_saved_34 : decode cX11_saved 34 = .ok (.iload 4, 2) := by decide +kernel
theorem dX11_saved_36 : decode cX11_saved 36 = .ok (.aload_n 0, 1) := by decide +kernel
theorem dX11_saved_37 : decode cX11_saved 37 = .ok (.getfield 40, 3) := by decide +kernel
theorem dX11_saved_40 : decode cX11_saved 40 = .ok (.bipush 6, 2) := by decide +kernel
theorem dX11_saved_42 : decode cX11_saved 42 = .ok (.iaload, 1) := by decide +kernel
theorem dX11_saved_43 : decode cX11_saved 43 = .ok (.if_icmp .ge 38, 3) := by decide +kernel
theorem dX11_saved_46 : decode cX11_saved 46 = .ok (.aload_n 0, 1) := by decide +kernel
theorem dX11_saved_47 : decode cX11_saved 47 = .ok (.getfield 61, 3) := by decide +kernel
theorem dX11_saved_50 : decode cX11_saved 50 = .ok (.iconst 5, 1) := by decide +kernel
theorem dX11_saved_51 : decode cX11_saved 51 = .ok (.iload 4, 2) := by decide +kernel
theorem dX11_saved_53 : decode cX11_saved 53 = .ok (.imul, 1) := by decide +kernel
theorem dX11_saved_54 : decode cX11_saved 54 = .ok (.iaload, 1) := by decide +kernel
theorem dX11_saved_55 : decode cX11_saved 55 = .ok (.iload_n 1, 1) := by decide +kernel
theorem dX11_saved_56 : decode cX11_saved 56 = .ok (.if_icmp .ne 19, 3) := by decide +kernel
theorem dX11_saved_59 : decode cX11_saved 59 = .ok (.iload_n 3, 1) := by decide +kernel
theorem dX11_saved_60 : decode cX11_saved 60 = .ok (.iconst 1, 1) := by decide +kernel
theorem dX11_saved_61 : decode cX11_saved 61 = .ok (.aload_n 0, 1) := by decide +kernel
theorem dX11_saved_62 : decode cX11_saved 62 = .ok (.getfield 61, 3) := by decide +kernel
theorem dX11_saved_65 : decode cX11_saved 65 = .ok (.iconst 5, 1) := by decide +kernel
theorem dX11_saved_66 : decode cX11_saved 66 = .ok (.iload 4, 2) := by decide +kernel
theorem dX11_saved_68 : decode cX11_saved 68 = .ok (.imul, 1) := by decide +kernel
theorem dX11_saved_69 : decode cX11_saved 69 = .ok (.iconst 2, 1) := by decide +kernel
theorem dX11_saved_70 : decode cX11_saved 70 = .ok (.iadd, 1) := by decide +kernel
theorem dX11_saved_71 : decode cX11_saved 71 = .ok (.iaload, 1) := by decide +kernel
theorem dX11_saved_72 : decode cX11_saved 72 = .ok (.ishl, 1) := by decide +kernel
theorem dX11_saved_73 : decode cX11_saved 73 = .ok (.ior, 1) := by decide +kernel
theorem dX11_saved_74 : decode cX11_saved 74 = .ok (.istore_n 3, 1) := by decide +kernel
theorem dX11_saved_75 : decode cX11_saved 75 = .ok (.iinc 4 1, 3) := by decide +kernel
theorem dX11_saved_78 : decode cX11_saved 78 = .ok (.goto (-44), 3) := by decide +kernel
theorem dX11_saved_81 : decode cX11_saved 81 = .ok (.aload_n 0, 1) := by decide +kernel
theorem dX11_saved_82 : decode cX11_saved 82 = .ok (.invokevirtual 455, 3) := by decide +kernel
theorem dX11_saved_85 : decode cX11_saved 85 = .ok (.aload_n 0, 1) := by decide +kernel
theorem dX11_saved_86 : decode cX11_saved 86 = .ok (.iload_n 1, 1) := by decide +kernel
theorem dX11_saved_87 : decode cX11_saved 87 = .ok (.iconst 1, 1) := by decide +kernel
theorem dX11_saved_88 : decode cX11_saved 88 = .ok (.invokevirtual 487, 3) := by decide +kernel
theorem dX11_saved_91 : decode cX11_saved 91 = .ok (.iload_n 2, 1) := by decide +kernel
theorem dX11_saved_92 : decode cX11_saved 92 = .ok (.iload_n 3, 1) := by decide +kernel
theorem dX11_saved_93 : decode cX11_saved 93 = .ok (.invokestatic 473, 3) := by decide +kernel
theorem dX11_saved_96 : decode cX11_saved 96 = .ok (.imul, 1) := by decide +kernel
theorem dX11_saved_97 : decode cX11_saved 97 = .ok (.iadd, 1) := by decide +kernel
theorem dX11_saved_98 : decode cX11_saved 98 = .ok (.aload_n 0, 1) := by decide +kernel
theorem dX11_saved_99 : decode cX11_saved 99 = .ok (.iload_n 1, 1) := by decide +kernel
theorem dX11_saved_100 : decode cX11_saved 100 = .ok (.iconst 0, 1) := by decide +kernel
theorem dX11_saved_101 : decode cX11_saved 101 = .ok (.invokevirtual 487, 3) := by decide +kernel
theorem dX11_saved_104 : decode cX11_saved 104 = .ok (.isub, 1) := by decide +kernel
theorem dX11_saved_105 : decode cX11_saved 105 = .ok (.ireturn, 1) := by decide +kernel
set_option maxRecDepth 20000 in
theorem ggX11_best_X11_isCoach : GoodIn wsX11_best wsX11_isCoach := goodIn_r _ [7, 8, 9, 10, 6, 11, 164, 165, 166, 167, 168, 169, 170, 171, 172, 173, 174, 175, 176, 177, 178, 179, 180, 181, 182, 183, 184, 185, 186, 187, 188, 189, 190, 191, 192, 193, 194, 195, 196, 197, 198, 199, 200, 201, 202, 203, 204, 205, 206, 207, 208, 209, 210, 211, 212, 213, 214, 215, 216, 217, 218, 219, 220, 221] (by decide +kernel) (by decide +kernel)
set_option maxRecDepth 20000 in
theorem gX11_best_X11_isCoach : GoodIn wsX11_best (wsV RX11 307 RX11 yX11_isCoach wsX11_isCoach) := goodIn_app (goodIn_of _ (by decide +kernel)) ggX11_best_X11_isCoach
theorem dX11_best_0 : decode cX11_best 0 = .ok (.aload_n 0, 1) := by decide +kernel
theorem dX11_best_1 : decode cX11_best 1 = .ok (.iconst 0, 1) := by decide +kernel
theorem dX11_best_2 : decode cX11_best 2 = .ok (.putfield 120, 3) := by decide +kernel
theorem dX11_best_5 : decode cX11_best 5 = .ok (.aload_n 0, 1) := by decide +kernel
theorem dX11_best_6 : decode cX11_best 6 = .ok (.iload_n 1, 1) := by decide +kernel
theorem dX11_best_7 : decode cX11_best 7 = .ok (.invokevirtual 307, 3) := by decide +kernel
theorem dX11_best_10 : decode cX11_best 10 = .ok (.ifCond .ne 6, 3) := by decide +kernel
theorem dX11_best_13 : decode cX11_best 13 = .ok (.bipush (-2), 2) := by decide +kernel
theorem dX11_best_15 : decode cX11_best 15 = .ok (.ireturn, 1) := by decide +kernel
theorem dX11_best_16 : decode cX11_best 16 = .ok (.aload_n 0, 1) := by decide +kernel
theorem dX11_best_17 : decode cX11_best 17 = .ok (.iload_n 1, 1) := by decide +kernel
theorem dX11_best_18 : decode cX11_best 18 = .ok (.invokevirtual 500, 3) := by decide +kernel
theorem dX11_best_21 : decode cX11_best 21 = .ok (.aload_n 0, 1) := by decide +kernel
theorem dX11_best_22 : decode cX11_best 22 = .ok (.getfield 491, 3) := by decide +kernel
theorem dX11_best_25 : decode cX11_best 25 = .ok (.ireturn, 1) := by decide +kernel
set_option maxRecDepth 20000 in
theorem ggX11_margin_X11_isCoach : GoodIn wsX11_margin wsX11_isCoach := goodIn_r _ [8, 9, 10, 11, 7, 12, 164, 165, 166, 167, 168, 169, 170, 171, 172, 173, 174, 175, 176, 177, 178, 179, 180, 181, 182, 183, 184, 185, 186, 187, 188, 189, 190, 191, 192, 193, 194, 195, 196, 197, 198, 199, 200, 201, 202, 203, 204, 205, 206, 207, 208, 209, 210, 211, 212, 213, 214, 215, 216, 217, 218, 219, 220, 221] (by decide +kernel) (by decide +kernel)
set_option maxRecDepth 20000 in
theorem gX11_margin_X11_isCoach : GoodIn wsX11_margin (wsV RX11 307 RX11 yX11_isCoach wsX11_isCoach) := goodIn_app (goodIn_of _ (by decide +kernel)) ggX11_margin_X11_isCoach
theorem dX11_margin_0 : decode cX11_margin 0 = .ok (.aload_n 0, 1) := by decide +kernel
theorem dX11_margin_1 : decode cX11_margin 1 = .ok (.iconst 0, 1) := by decide +kernel
theorem dX11_margin_2 : decode cX11_margin 2 = .ok (.putfield 120, 3) := by decide +kernel
theorem dX11_margin_5 : decode cX11_margin 5 = .ok (.aload_n 0, 1) := by decide +kernel
theorem dX11_margin_6 : decode cX11_margin 6 = .ok (.iload_n 1, 1) := by decide +kernel
theorem dX11_margin_7 : decode cX11_margin 7 = .ok (.invokevirtual 307, 3) := by decide +kernel
theorem dX11_margin_10 : decode cX11_margin 10 = .ok (.ifCond .eq 13, 3) := by decide +kernel
theorem dX11_margin_13 : decode cX11_margin 13 = .ok (.iload_n 2, 1) := by decide +kernel
theorem dX11_margin_14 : decode cX11_margin 14 = .ok (.i2l, 1) := by decide +kernel
theorem dX11_margin_15 : decode cX11_margin 15 = .ok (.lconst 0, 1) := by decide +kernel
theorem dX11_margin_16 : decode cX11_margin 16 = .ok (.lconst 1, 1) := by decide +kernel
theorem dX11_margin_17 : decode cX11_margin 17 = .ok (.invokestatic 125, 3) := by decide +kernel
theorem dX11_margin_20 : decode cX11_margin 20 = .ok (.ifCond .ne 6, 3) := by decide +kernel
theorem dX11_margin_23 : decode cX11_margin 23 = .ok (.bipush (-2), 2) := by decide +kernel
theorem dX11_margin_25 : decode cX11_margin 25 = .ok (.ireturn, 1) := by decide +kernel
theorem dX11_margin_26 : decode cX11_margin 26 = .ok (.aload_n 0, 1) := by decide +kernel
theorem dX11_margin_27 : decode cX11_margin 27 = .ok (.iload_n 1, 1) := by decide +kernel
theorem dX11_margin_28 : decode cX11_margin 28 = .ok (.invokevirtual 500, 3) := by decide +kernel
theorem dX11_margin_31 : decode cX11_margin 31 = .ok (.iload_n 2, 1) := by decide +kernel
theorem dX11_margin_32 : decode cX11_margin 32 = .ok (.ifCond .ne 10, 3) := by decide +kernel
theorem dX11_margin_35 : decode cX11_margin 35 = .ok (.aload_n 0, 1) := by decide +kernel
theorem dX11_margin_36 : decode cX11_margin 36 = .ok (.getfield 494, 3) := by decide +kernel
theorem dX11_margin_39 : decode cX11_margin 39 = .ok (.goto 7, 3) := by decide +kernel
theorem dX11_margin_42 : decode cX11_margin 42 = .ok (.aload_n 0, 1) := by decide +kernel
theorem dX11_margin_43 : decode cX11_margin 43 = .ok (.getfield 497, 3) := by decide +kernel
theorem dX11_margin_46 : decode cX11_margin 46 = .ok (.ireturn, 1) := by decide +kernel
set_option maxRecDepth 20000 in
theorem ggX11_isDay_X11_isLine : GoodIn wsX11_isDay wsX11_isLine := goodIn_r _ [8, 9, 13, 14, 15, 16, 17, 18, 19, 20, 21, 22, 23, 24, 25, 26, 27, 28, 29, 30, 31, 32, 33, 34, 35, 36, 37, 38, 39, 40, 41, 42, 43, 44, 45, 46, 47, 48, 49, 50, 51, 52, 53, 54, 55, 56, 57, 58, 59, 60, 61, 62, 63, 64, 65, 66, 67, 68, 69, 70] (by decide +kernel) (by decide +kernel)
set_option maxRecDepth 20000 in
theorem gX11_isDay_X11_isLine : GoodIn wsX11_isDay (wsV RX11 290 RX11 yX11_isLine wsX11_isLine) := goodIn_app (goodIn_of _ (by decide +kernel)) ggX11_isDay_X11_isLine
theorem dX11_isDay_0 : decode cX11_isDay 0 = .ok (.aload_n 0, 1) := by decide +kernel
theorem dX11_isDay_1 : decode cX11_isDay 1 = .ok (.invokevirtual 290, 3) := by decide +kernel
theorem dX11_isDay_4 : decode cX11_isDay 4 = .ok (.ifCond .eq 43, 3) := by decide +kernel
theorem dX11_isDay_7 : decode cX11_isDay 7 = .ok (.iload_n 1, 1) := by decide +kernel
theorem dX11_isDay_8 : decode cX11_isDay 8 = .ok (.i2l, 1) := by decide +kernel
theorem dX11_isDay_9 : decode cX11_isDay 9 = .ok (.lconst 0, 1) := by decide +kernel
theorem dX11_isDay_10 : decode cX11_isDay 10 = .ok (.ldc2_w 517, 3) := by decide +kernel
theorem dX11_isDay_13 : decode cX11_isDay 13 = .ok (.invokestatic 125, 3) := by decide +kernel
theorem dX11_isDay_16 : decode cX11_isDay 16 = .ok (.ifCond .eq 31, 3) := by decide +kernel
theorem dX11_isDay_19 : decode cX11_isDay 19 = .ok (.iload_n 2, 1) := by decide +kernel
theorem dX11_isDay_20 : decode cX11_isDay 20 = .ok (.i2l, 1) := by decide +kernel
theorem dX11_isDay_21 : decode cX11_isDay 21 = .ok (.lconst 0, 1) := by decide +kernel
theorem dX11_isDay_22 : decode cX11_isDay 22 = .ok (.ldc2_w 312, 3) := by decide +kernel
theorem dX11_isDay_25 : decode cX11_isDay 25 = .ok (.invokestatic 125, 3) := by decide +kernel
theorem dX11_isDay_28 : decode cX11_isDay 28 = .ok (.ifCond .eq 19, 3) := by decide +kernel
theorem dX11_isDay_31 : decode cX11_isDay 31 = .ok (.iload_n 3, 1) := by decide +kernel
theorem dX11_isDay_32 : decode cX11_isDay 32 = .ok (.i2l, 1) := by decide +kernel
theorem dX11_isDay_33 : decode cX11_isDay 33 = .ok (.lconst 0, 1) := by decide +kernel
theorem dX11_isDay_34 : decode cX11_isDay 34 = .ok (.ldc2_w 476, 3) := by decide +kernel
theorem dX11_isDay_37 : decode cX11_isDay 37 = .ok (.invokestatic 125, 3) := by decide +kernel
theorem dX11_isDay_40 : decode cX11_isDay 40 = .ok (.ifCond .eq 7, 3) := by decide +kernel
theorem dX11_isDay_43 : decode cX11_isDay 43 = .ok (.iconst 1, 1) := by decide +kernel
theorem dX11_isDay_44 : decode cX11_isDay 44 = .ok (.goto 4, 3) := by decide +kernel
theorem dX11_isDay_47 : decode cX11_isDay 47 = .ok (.iconst 0, 1) := by decide +kernel
theorem dX11_isDay_48 : decode cX11_isDay 48 = .ok (.ireturn, 1) := by decide +kernel
set_option maxRecDepth 20000 in
theorem ggX11_days_X11_isDay : GoodIn wsX11_days wsX11_isDay := goodIn_r _ [8, 9, 10, 11, 12, 13, 14, 7, 15, 16, 17, 18, 19, 178, 179, 180, 181, 182, 183, 184, 185, 186, 187, 188, 189, 190, 191, 192, 193, 194, 195, 196, 197, 198, 199, 200, 201, 202, 203, 204, 205, 206, 207, 208, 209, 210, 211, 212, 213, 214, 215, 216, 217, 218, 219, 220, 221, 222, 223, 224, 225, 226, 227, 228, 229, 230, 231, 232, 233, 234, 235] (by decide +kernel) (by decide +kernel)
set_option maxRecDepth 20000 in
theorem gX11_days_X11_isDay : GoodIn wsX11_days (wsV RX11 519 RX11 yX11_isDay wsX11_isDay) := goodIn_app (goodIn_of _ (by decide +kernel)) ggX11_days_X11_isDay
theorem dX11_days_0 : decode cX11_days 0 = .ok (.aload_n 0, 1) := by decide +kernel
theorem dX11_days_1 : decode cX11_days 1 = .ok (.iconst 0, 1) := by decide +kernel
theorem dX11_days_2 : decode cX11_days 2 = .ok (.putfield 120, 3) := by decide +kernel
theorem dX11_days_5 : decode cX11_days 5 = .ok (.aload_n 0, 1) := by decide +kernel
theorem dX11_days_6 : decode cX11_days 6 = .ok (.iload_n 1, 1) := by decide +kernel
theorem dX11_days_7 : decode cX11_days 7 = .ok (.iload_n 3, 1) := by decide +kernel
theorem dX11_days_8 : decode cX11_days 8 = .ok (.iload 4, 2) := by decide +kernel
theorem dX11_days_10 : decode cX11_days 10 = .ok (.invokevirtual 519, 3) := by decide +kernel
theorem dX11_days_13 : decode cX11_days 13 = .ok (.ifCond .eq 15, 3) := by decide +kernel
theorem dX11_days_16 : decode cX11_days 16 = .ok (.iload_n 2, 1) := by decide +kernel
theorem dX11_days_17 : decode cX11_days 17 = .ok (.i2l, 1) := by decide +kernel
theorem dX11_days_18 : decode cX11_days 18 = .ok (.lconst 1, 1) := by decide +kernel
theorem dX11_days_19 : decode cX11_days 19 = .ok (.ldc2_w 522, 3) := by decide +kernel
theorem dX11_days_22 : decode cX11_days 22 = .ok (.invokestatic 125, 3) := by decide +kernel
theorem dX11_days_25 : decode cX11_days 25 = .ok (.ifCond .ne 6, 3) := by decide +kernel
theorem dX11_days_28 : decode cX11_days 28 = .ok (.bipush (-2), 2) := by decide +kernel
theorem dX11_days_30 : decode cX11_days 30 = .ok (.ireturn, 1) := by decide +kernel
theorem dX11_days_31 : decode cX11_days 31 = .ok (.aload_n 0, 1) := by decide +kernel
theorem dX11_days_32 : decode cX11_days 32 = .ok (.invokevirtual 455, 3) := by decide +kernel
theorem dX11_days_35 : decode cX11_days 35 = .ok (.iconst 0, 1) := by decide +kernel
theorem dX11_days_36 : decode cX11_days 36 = .ok (.istore 5, 2) := by decide +kernel
theorem dX11_days_38 : decode cX11_days 38 = .ok (.iconst 0, 1) := by decide +kernel
theorem dX11_days_39 : decode cX11_days 39 = .ok (.istore 6, 2) := by decide +kernel
theorem dX11_days_41 : decode cX11_days 41 = .ok (.iload 6, 2) := by decide +kernel
theorem dX11_days_43 : decode cX11_days 43 = .ok (.iload_n 2, 1) := by decide +kernel
theorem dX11_days_44 : decode cX11_days 44 = .ok (.if_icmp .ge 40, 3) := by decide +kernel
theorem dX11_days_47 : decode cX11_days 47 = .ok (.aload_n 0, 1) := by decide +kernel
theorem dX11_days_48 : decode cX11_days 48 = .ok (.iload_n 1, 1) := by decide +kernel
theorem dX11_days_49 : decode cX11_days 49 = .ok (.i2l, 1) := by decide +kernel
theorem dX11_days_50 : decode cX11_days 50 = .ok (.iload 6, 2) := by decide +kernel
theorem dX11_days_52 : decode cX11_days 52 = .ok (.i2l, 1) := by decide +kernel
theorem dX11_days_53 : decode cX11_days 53 = .ok (.ladd, 1) := by decide +kernel
theorem dX11_days_54 : decode cX11_days 54 = .ok (.iload_n 3, 1) := by decide +kernel
theorem dX11_days_55 : decode cX11_days 55 = .ok (.iload 4, 2) := by decide +kernel
theorem dX11_days_57 : decode cX11_days 57 = .ok (.invokevirtual 524, 3) := by decide +kernel
theorem dX11_days_60 : decode cX11_days 60 = .ok (.iload 5, 2) := by decide +kernel
theorem dX11_days_62 : decode cX11_days 62 = .ok (.aload_n 0, 1) := by decide +kernel
theorem dX11_days_63 : decode cX11_days 63 = .ok (.getfield 401, 3) := by decide +kernel
theorem dX11_days_66 : decode cX11_days 66 = .ok (.iconst (-1), 1) := by decide +kernel
theorem dX11_days_67 : decode cX11_days 67 = .ok (.if_icmp .eq 7, 3) := by decide +kernel
theorem dX11_days_70 : decode cX11_days 70 = .ok (.iconst 1, 1) := by decide +kernel
theorem dX11_days_71 : decode cX11_days 71 = .ok (.goto 4, 3) := by decide +kernel
theorem dX11_days_74 : decode cX11_days 74 = .ok (.iconst 0, 1) := by decide +kernel
theorem dX11_days_75 : decode cX11_days 75 = .ok (.iadd, 1) := by decide +kernel
theorem dX11_days_76 : decode cX11_days 76 = .ok (.istore 5, 2) := by decide +kernel
theorem dX11_days_78 : decode cX11_days 78 = .ok (.iinc 6 1, 3) := by decide +kernel
theorem dX11_days_81 : decode cX11_days 81 = .ok (.goto (-40), 3) := by decide +kernel
theorem dX11_days_84 : decode cX11_days 84 = .ok (.iload 5, 2) := by decide +kernel
theorem dX11_days_86 : decode cX11_days 86 = .ok (.ireturn, 1) := by decide +kernel
set_option maxRecDepth 20000 in
theorem ggX11_day_X11_isDay : GoodIn wsX11_day wsX11_isDay := goodIn_r _ [6, 7, 8, 9, 10, 11, 12, 5, 13, 14, 15, 16, 17, 181, 182, 183, 184, 185, 186, 187, 188, 189, 190, 191, 192, 193, 194, 195, 196, 197, 198, 199, 200, 201, 202, 203, 204, 205, 206, 207, 208, 209, 210, 211, 212, 213, 214, 215, 216, 217, 218, 219, 220, 221, 222, 223, 224, 225, 226, 227, 228, 229, 230, 231, 232, 233, 234, 235, 236, 237, 238] (by decide +kernel) (by decide +kernel)
set_option maxRecDepth 20000 in
theorem gX11_day_X11_isDay : GoodIn wsX11_day (wsV RX11 519 RX11 yX11_isDay wsX11_isDay) := goodIn_app (goodIn_of _ (by decide +kernel)) ggX11_day_X11_isDay
theorem dX11_day_0 : decode cX11_day 0 = .ok (.aload_n 0, 1) := by decide +kernel
theorem dX11_day_1 : decode cX11_day 1 = .ok (.iconst 0, 1) := by decide +kernel
theorem dX11_day_2 : decode cX11_day 2 = .ok (.putfield 120, 3) := by decide +kernel
theorem dX11_day_5 : decode cX11_day 5 = .ok (.aload_n 0, 1) := by decide +kernel
theorem dX11_day_6 : decode cX11_day 6 = .ok (.iload_n 1, 1) := by decide +kernel
theorem dX11_day_7 : decode cX11_day 7 = .ok (.iload_n 2, 1) := by decide +kernel
theorem dX11_day_8 : decode cX11_day 8 = .ok (.iload_n 3, 1) := by decide +kernel
theorem dX11_day_9 : decode cX11_day 9 = .ok (.invokevirtual 519, 3) := by decide +kernel
theorem dX11_day_12 : decode cX11_day 12 = .ok (.ifCond .ne 6, 3) := by decide +kernel
theorem dX11_day_15 : decode cX11_day 15 = .ok (.bipush (-2), 2) := by decide +kernel
theorem dX11_day_17 : decode cX11_day 17 = .ok (.ireturn, 1) := by decide +kernel
theorem dX11_day_18 : decode cX11_day 18 = .ok (.aload_n 0, 1) := by decide +kernel
theorem dX11_day_19 : decode cX11_day 19 = .ok (.invokevirtual 455, 3) := by decide +kernel
theorem dX11_day_22 : decode cX11_day 22 = .ok (.aload_n 0, 1) := by decide +kernel
theorem dX11_day_23 : decode cX11_day 23 = .ok (.iload_n 1, 1) := by decide +kernel
theorem dX11_day_24 : decode cX11_day 24 = .ok (.i2l, 1) := by decide +kernel
theorem dX11_day_25 : decode cX11_day 25 = .ok (.iload_n 2, 1) := by decide +kernel
theorem dX11_day_26 : decode cX11_day 26 = .ok (.iload_n 3, 1) := by decide +kernel
theorem dX11_day_27 : decode cX11_day 27 = .ok (.invokevirtual 524, 3) := by decide +kernel
theorem dX11_day_30 : decode cX11_day 30 = .ok (.aload_n 0, 1) := by decide +kernel
theorem dX11_day_31 : decode cX11_day 31 = .ok (.invokevirtual 470, 3) := by decide +kernel
theorem dX11_day_34 : decode cX11_day 34 = .ok (.ireturn, 1) := by decide +kernel
theorem dX11_count_0 : decode cX11_count 0 = .ok (.aload_n 0, 1) := by decide +kernel
theorem dX11_count_1 : decode cX11_count 1 = .ok (.iconst 0, 1) := by decide +kernel
theorem dX11_count_2 : decode cX11_count 2 = .ok (.putfield 120, 3) := by decide +kernel
theorem dX11_count_5 : decode cX11_count 5 = .ok (.iconst 0, 1) := by decide +kernel
theorem dX11_count_6 : decode cX11_count 6 = .ok (.istore_n 2, 1) := by decide +kernel
theorem dX11_count_7 : decode cX11_count 7 = .ok (.iload_n 1, 1) := by decide +kernel
theorem dX11_count_8 : decode cX11_count 8 = .ok (.tableswitch 140 0 8 #[52, 59, 66, 73, 80, 88, 95, 100, 107], 52) := by decide +kernel
theorem dX11_count_60 : decode cX11_count 60 = .ok (.aload_n 0, 1) := by decide +kernel
theorem dX11_count_61 : decode cX11_count 61 = .ok (.getfield 34, 3) := by decide +kernel
theorem dX11_count_64 : decode cX11_count 64 = .ok (.iconst 0, 1) := by decide +kernel
theorem dX11_count_65 : decode cX11_count 65 = .ok (.iaload, 1) := by decide +kernel
theorem dX11_count_66 : decode cX11_count 66 = .ok (.ireturn, 1) := by decide +kernel
theorem dX11_count_67 : decode cX11_count 67 = .ok (.aload_n 0, 1) := by decide +kernel
theorem dX11_count_68 : decode cX11_count 68 = .ok (.getfield 40, 3) := by decide +kernel
theorem dX11_count_71 : decode cX11_count 71 = .ok (.iconst 4, 1) := by decide +kernel
theorem dX11_count_72 : decode cX11_count 72 = .ok (.iaload, 1) := by decide +kernel
theorem dX11_count_73 : decode cX11_count 73 = .ok (.ireturn, 1) := by decide +kernel
theorem dX11_count_74 : decode cX11_count 74 = .ok (.aload_n 0, 1) := by decide +kernel
theorem dX11_count_75 : decode cX11_count 75 = .ok (.getfield 40, 3) := by decide +kernel
theorem dX11_count_78 : decode cX11_count 78 = .ok (.iconst 3, 1) := by decide +kernel
theorem dX11_count_79 : decode cX11_count 79 = .ok (.iaload, 1) := by decide +kernel
theorem dX11_count_80 : decode cX11_count 80 = .ok (.ireturn, 1) := by decide +kernel
theorem dX11_count_81 : decode cX11_count 81 = .ok (.aload_n 0, 1) := by decide +kernel
theorem dX11_count_82 : decode cX11_count 82 = .ok (.getfield 40, 3) := by decide +kernel
theorem dX11_count_85 : decode cX11_count 85 = .ok (.iconst 5, 1) := by decide +kernel
theorem dX11_count_86 : decode cX11_count 86 = .ok (.iaload, 1) := by decide +kernel
theorem dX11_count_87 : decode cX11_count 87 = .ok (.ireturn, 1) := by decide +kernel
theorem dX11_count_88 : decode cX11_count 88 = .ok (.aload_n 0, 1) := by decide +kernel
theorem dX11_count_89 : decode cX11_count 89 = .ok (.getfield 40, 3) := by decide +kernel
theorem dX11_count_92 : decode cX11_count 92 = .ok (.bipush 6, 2) := by decide +kernel
theorem dX11_count_94 : decode cX11_count 94 = .ok (.iaload, 1) := by decide +kernel
theorem dX11_count_95 : decode cX11_count 95 = .ok (.ireturn, 1) := by decide +kernel
theorem dX11_count_96 : decode cX11_count 96 = .ok (.aload_n 0, 1) := by decide +kernel
theorem dX11_count_97 : decode cX11_count 97 = .ok (.getfield 31, 3) := by decide +kernel
theorem dX11_count_100 : decode cX11_count 100 = .ok (.iconst 0, 1) := by decide +kernel
theorem dX11_count_101 : decode cX11_count 101 = .ok (.iaload, 1) := by decide +kernel
theorem dX11_count_102 : decode cX11_count 102 = .ok (.ireturn, 1) := by decide +kernel
theorem dX11_count_103 : decode cX11_count 103 = .ok (.aload_n 0, 1) := by decide +kernel
theorem dX11_count_104 : decode cX11_count 104 = .ok (.getfield 137, 3) := by decide +kernel
theorem dX11_count_107 : decode cX11_count 107 = .ok (.ireturn, 1) := by decide +kernel
theorem dX11_count_108 : decode cX11_count 108 = .ok (.aload_n 0, 1) := by decide +kernel
theorem dX11_count_109 : decode cX11_count 109 = .ok (.getfield 37, 3) := by decide +kernel
theorem dX11_count_112 : decode cX11_count 112 = .ok (.iconst 0, 1) := by decide +kernel
theorem dX11_count_113 : decode cX11_count 113 = .ok (.iaload, 1) := by decide +kernel
theorem dX11_count_114 : decode cX11_count 114 = .ok (.ireturn, 1) := by decide +kernel
theorem dX11_count_115 : decode cX11_count 115 = .ok (.iconst 0, 1) := by decide +kernel
theorem dX11_count_116 : decode cX11_count 116 = .ok (.istore_n 3, 1) := by decide +kernel
theorem dX11_count_117 : decode cX11_count 117 = .ok (.iload_n 3, 1) := by decide +kernel
theorem dX11_count_118 : decode cX11_count 118 = .ok (.iconst 4, 1) := by decide +kernel
theorem dX11_count_119 : decode cX11_count 119 = .ok (.if_icmp .ge 27, 3) := by decide +kernel
theorem dX11_count_122 : decode cX11_count 122 = .ok (.iload_n 2, 1) := by decide +kernel
theorem dX11_count_123 : decode cX11_count 123 = .ok (.aload_n 0, 1) := by decide +kernel
theorem dX11_count_124 : decode cX11_count 124 = .ok (.getfield 7, 3) := by decide +kernel
theorem dX11_count_127 : decode cX11_count 127 = .ok (.iload_n 3, 1) := by decide +kernel
theorem dX11_count_128 : decode cX11_count 128 = .ok (.iaload, 1) := by decide +kernel
theorem dX11_count_129 : decode cX11_count 129 = .ok (.iconst (-1), 1) := by decide +kernel
theorem dX11_count_130 : decode cX11_count 130 = .ok (.if_icmp .ne 7, 3) := by decide +kernel
theorem dX11_count_133 : decode cX11_count 133 = .ok (.iconst 0, 1) := by decide +kernel
theorem dX11_count_134 : decode cX11_count 134 = .ok (.goto 4, 3) := by decide +kernel
theorem dX11_count_137 : decode cX11_count 137 = .ok (.iconst 1, 1) := by decide +kernel
theorem dX11_count_138 : decode cX11_count 138 = .ok (.iadd, 1) := by decide +kernel
theorem dX11_count_139 : decode cX11_count 139 = .ok (.istore_n 2, 1) := by decide +kernel
theorem dX11_count_140 : decode cX11_count 140 = .ok (.iinc 3 1, 3) := by decide +kernel
theorem dX11_count_143 : decode cX11_count 143 = .ok (.goto (-26), 3) := by decide +kernel
theorem dX11_count_146 : decode cX11_count 146 = .ok (.iload_n 2, 1) := by decide +kernel
theorem dX11_count_147 : decode cX11_count 147 = .ok (.ireturn, 1) := by decide +kernel
theorem dX11_count_148 : decode cX11_count 148 = .ok (.iconst (-1), 1) := by decide +kernel
theorem dX11_count_149 : decode cX11_count 149 = .ok (.ireturn, 1) := by decide +kernel
set_option maxRecDepth 20000 in
theorem ggX11_keep_X11_in : GoodIn wsX11_keep wsX11_in := goodIn_r _ [7] (by decide +kernel) (by decide +kernel)
set_option maxRecDepth 20000 in
theorem gX11_keep_X11_in : GoodIn wsX11_keep (va_wsS RX11 125 yX11_in wsX11_in) := goodIn_app (goodIn_of _ (by decide +kernel)) ggX11_keep_X11_in
set_option maxRecDepth 20000 in
theorem ggX11_keep_X11_copyLine : GoodIn wsX11_keep wsX11_copyLine := goodIn_r _ [11, 12, 13, 14, 15, 16, 17, 18, 19, 20, 21, 22, 23, 24, 6, 25, 26, 27, 28, 29, 30, 31, 32, 33, 34, 35, 36, 37, 38, 39, 40, 41, 42, 43, 44, 45, 46, 47, 48, 49, 50, 51, 52, 53, 54, 55, 56, 57, 58, 59, 60, 61, 62, 63, 64, 65, 66, 67, 68, 69, 70, 71, 72, 73, 74, 75, 76, 77, 78, 79, 80, 81, 82, 83] (by decide +kernel) (by decide +kernel)
set_option maxRecDepth 20000 in
theorem gX11_keep_X11_copyLine : GoodIn wsX11_keep (wsV RX11 282 RX11 yX11_copyLine wsX11_copyLine) := goodIn_app (goodIn_of _ (by decide +kernel)) ggX11_keep_X11_copyLine
theorem dX11_keep_0 : decode cX11_keep 0 = .ok (.aload_n 0, 1) := by decide +kernel
theorem dX11_keep_1 : decode cX11_keep 1 = .ok (.iconst 0, 1) := by decide +kernel
theorem dX11_keep_2 : decode cX11_keep 2 = .ok (.putfield 120, 3) := by decide +kernel
theorem dX11_keep_5 : decode cX11_keep 5 = .ok (.iload_n 1, 1) := by decide +kernel
theorem dX11_keep_6 : decode cX11_keep 6 = .ok (.i2l, 1) := by decide +kernel
theorem dX11_keep_7 : decode cX11_keep 7 = .ok (.lconst 0, 1) := by decide +kernel
theorem dX11_keep_8 : decode cX11_keep 8 = .ok (.ldc2_w 296, 3) := by decide +kernel
theorem dX11_keep_11 : decode cX11_keep 11 = .ok (.invokestatic 125, 3) := by decide +kernel
theorem dX11_keep_14 : decode cX11_keep 14 = .ok (.ifCond .ne 6, 3) := by decide +kernel
theorem dX11_keep_17 : decode cX11_keep 17 = .ok (.bipush (-2), 2) := by decide +kernel
theorem dX11_keep_19 : decode cX11_keep 19 = .ok (.ireturn, 1) := by decide +kernel
theorem dX11_keep_20 : decode cX11_keep 20 = .ok (.aload_n 0, 1) := by decide +kernel
theorem dX11_keep_21 : decode cX11_keep 21 = .ok (.iconst 0, 1) := by decide +kernel
theorem dX11_keep_22 : decode cX11_keep 22 = .ok (.iconst 1, 1) := by decide +kernel
theorem dX11_keep_23 : decode cX11_keep 23 = .ok (.iload_n 1, 1) := by decide +kernel
theorem dX11_keep_24 : decode cX11_keep 24 = .ok (.iadd, 1) := by decide +kernel
theorem dX11_keep_25 : decode cX11_keep 25 = .ok (.invokevirtual 282, 3) := by decide +kernel
theorem dX11_keep_28 : decode cX11_keep 28 = .ok (.aload_n 0, 1) := by decide +kernel
theorem dX11_keep_29 : decode cX11_keep 29 = .ok (.getfield 64, 3) := by decide +kernel
theorem dX11_keep_32 : decode cX11_keep 32 = .ok (.iload_n 1, 1) := by decide +kernel
theorem dX11_keep_33 : decode cX11_keep 33 = .ok (.iconst 1, 1) := by decide +kernel
theorem dX11_keep_34 : decode cX11_keep 34 = .ok (.bastore, 1) := by decide +kernel
theorem dX11_keep_35 : decode cX11_keep 35 = .ok (.iconst 0, 1) := by decide +kernel
theorem dX11_keep_36 : decode cX11_keep 36 = .ok (.ireturn, 1) := by decide +kernel
set_option maxRecDepth 20000 in
theorem ggX11_back_X11_in : GoodIn wsX11_back wsX11_in := goodIn_r _ [7] (by decide +kernel) (by decide +kernel)
set_option maxRecDepth 20000 in
theorem gX11_back_X11_in : GoodIn wsX11_back (va_wsS RX11 125 yX11_in wsX11_in) := goodIn_app (goodIn_of _ (by decide +kernel)) ggX11_back_X11_in
theorem dX11_back_0 : decode cX11_back 0 = .ok (.aload_n 0, 1) := by decide +kernel
theorem dX11_back_1 : decode cX11_back 1 = .ok (.iconst 0, 1) := by decide +kernel
theorem dX11_back_2 : decode cX11_back 2 = .ok (.putfield 120, 3) := by decide +kernel
theorem dX11_back_5 : decode cX11_back 5 = .ok (.iload_n 1, 1) := by decide +kernel
theorem dX11_back_6 : decode cX11_back 6 = .ok (.i2l, 1) := by decide +kernel
theorem dX11_back_7 : decode cX11_back 7 = .ok (.lconst 0, 1) := by decide +kernel
theorem dX11_back_8 : decode cX11_back 8 = .ok (.ldc2_w 296, 3) := by decide +kernel
theorem dX11_back_11 : decode cX11_back 11 = .ok (.invokestatic 125, 3) := by decide +kernel
theorem dX11_back_14 : decode cX11_back 14 = .ok (.ifCond .ne 6, 3) := by decide +kernel
theorem dX11_back_17 : decode cX11_back 17 = .ok (.bipush (-2), 2) := by decide +kernel
theorem dX11_back_19 : decode cX11_back 19 = .ok (.ireturn, 1) := by decide +kernel
theorem dX11_back_20 : decode cX11_back 20 = .ok (.aload_n 0, 1) := by decide +kernel
theorem dX11_back_21 : decode cX11_back 21 = .ok (.getfield 64, 3) := by decide +kernel
theorem dX11_back_24 : decode cX11_back 24 = .ok (.iload_n 1, 1) := by decide +kernel
theorem dX11_back_25 : decode cX11_back 25 = .ok (.baload, 1) := by decide +kernel
theorem dX11_back_26 : decode cX11_back 26 = .ok (.ifCond .ne 6, 3) := by decide +kernel
theorem dX11_back_29 : decode cX11_back 29 = .ok (.bipush (-6), 2) := by decide +kernel
theorem dX11_back_31 : decode cX11_back 31 = .ok (.ireturn, 1) := by decide +kernel
theorem dX11_back_32 : decode cX11_back 32 = .ok (.aload_n 0, 1) := by decide +kernel
theorem dX11_back_33 : decode cX11_back 33 = .ok (.iconst 1, 1) := by decide +kernel
theorem dX11_back_34 : decode cX11_back 34 = .ok (.iload_n 1, 1) := by decide +kernel
theorem dX11_back_35 : decode cX11_back 35 = .ok (.iadd, 1) := by decide +kernel
theorem dX11_back_36 : decode cX11_back 36 = .ok (.iconst 0, 1) := by decide +kernel
theorem dX11_back_37 : decode cX11_back 37 = .ok (.invokevirtual 282, 3) := by decide +kernel
theorem dX11_back_40 : decode cX11_back 40 = .ok (.iconst 0, 1) := by decide +kernel
theorem dX11_back_41 : decode cX11_back 41 = .ok (.ireturn, 1) := by decide +kernel
theorem dJ7_fill_d0a16_0 : decode cJ7_fill_d0a16 0 = .ok (.iconst 0, 1) := by decide +kernel
theorem dJ7_fill_d0a16_1 : decode cJ7_fill_d0a16 1 = .ok (.istore_n 3, 1) := by decide +kernel
theorem dJ7_fill_d0a16_2 : decode cJ7_fill_d0a16 2 = .ok (.aload_n 0, 1) := by decide +kernel
theorem dJ7_fill_d0a16_3 : decode cJ7_fill_d0a16 3 = .ok (.arraylength, 1) := by decide +kernel
theorem dJ7_fill_d0a16_4 : decode cJ7_fill_d0a16 4 = .ok (.istore 4, 2) := by decide +kernel
theorem dJ7_fill_d0a16_6 : decode cJ7_fill_d0a16 6 = .ok (.iload_n 3, 1) := by decide +kernel
theorem dJ7_fill_d0a16_7 : decode cJ7_fill_d0a16 7 = .ok (.iload 4, 2) := by decide +kernel
theorem dJ7_fill_d0a16_9 : decode cJ7_fill_d0a16 9 = .ok (.if_icmp .ge 13, 3) := by decide +kernel
theorem dJ7_fill_d0a16_12 : decode cJ7_fill_d0a16 12 = .ok (.aload_n 0, 1) := by decide +kernel
theorem dJ7_fill_d0a16_13 : decode cJ7_fill_d0a16 13 = .ok (.iload_n 3, 1) := by decide +kernel
theorem dJ7_fill_d0a16_14 : decode cJ7_fill_d0a16 14 = .ok (.lload_n 1, 1) := by decide +kernel
theorem dJ7_fill_d0a16_15 : decode cJ7_fill_d0a16 15 = .ok (.lastore, 1) := by decide +kernel
theorem dJ7_fill_d0a16_16 : decode cJ7_fill_d0a16 16 = .ok (.iinc 3 1, 3) := by decide +kernel
theorem dJ7_fill_d0a16_19 : decode cJ7_fill_d0a16 19 = .ok (.goto (-13), 3) := by decide +kernel
theorem dJ7_fill_d0a16_22 : decode cJ7_fill_d0a16 22 = .ok (.return_, 1) := by decide +kernel
theorem dJ7_fill_53178_0 : decode cJ7_fill_53178 0 = .ok (.iconst 0, 1) := by decide +kernel
theorem dJ7_fill_53178_1 : decode cJ7_fill_53178 1 = .ok (.istore_n 2, 1) := by decide +kernel
theorem dJ7_fill_53178_2 : decode cJ7_fill_53178 2 = .ok (.aload_n 0, 1) := by decide +kernel
theorem dJ7_fill_53178_3 : decode cJ7_fill_53178 3 = .ok (.arraylength, 1) := by decide +kernel
theorem dJ7_fill_53178_4 : decode cJ7_fill_53178 4 = .ok (.istore_n 3, 1) := by decide +kernel
theorem dJ7_fill_53178_5 : decode cJ7_fill_53178 5 = .ok (.iload_n 2, 1) := by decide +kernel
theorem dJ7_fill_53178_6 : decode cJ7_fill_53178 6 = .ok (.iload_n 3, 1) := by decide +kernel
theorem dJ7_fill_53178_7 : decode cJ7_fill_53178 7 = .ok (.if_icmp .ge 13, 3) := by decide +kernel
theorem dJ7_fill_53178_10 : decode cJ7_fill_53178 10 = .ok (.aload_n 0, 1) := by decide +kernel
theorem dJ7_fill_53178_11 : decode cJ7_fill_53178 11 = .ok (.iload_n 2, 1) := by decide +kernel
theorem dJ7_fill_53178_12 : decode cJ7_fill_53178 12 = .ok (.iload_n 1, 1) := by decide +kernel
theorem dJ7_fill_53178_13 : decode cJ7_fill_53178 13 = .ok (.iastore, 1) := by decide +kernel
theorem dJ7_fill_53178_14 : decode cJ7_fill_53178 14 = .ok (.iinc 2 1, 3) := by decide +kernel
theorem dJ7_fill_53178_17 : decode cJ7_fill_53178 17 = .ok (.goto (-12), 3) := by decide +kernel
theorem dJ7_fill_53178_20 : decode cJ7_fill_53178 20 = .ok (.return_, 1) := by decide +kernel
abbrev vwCl : List vw_C := [(RX0, TX0, 12), (RX1, TX1, 7), (RX2, TX2, 15), (RX3, TX3, 9), (RX4, TX4, 3), (RX5, TX5, 8), (RX6, TX6, 4), (RX7, TX7, 3), (RX8, TX8, 3), (RX9, TX9, 6), (RX10, TX10, 15), (RX11, TX11, 58)]

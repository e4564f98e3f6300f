theorem dX10_judge_25 : decode cX10_judge 25 = .ok (.aload_n 0, 1) := by decide +kernel
theorem dX10_judge_26 : decode cX10_judge 26 = .ok (.getfield 48, 3) := by decide +kernel
theorem dX10_judge_29 : decode cX10_judge 29 = .ok (.iload_n 1, 1) := by decide +kernel
theorem dX10_judge_30 : decode cX10_judge 30 = .ok (.aaload, 1) := by decide +kernel
theorem dX10_judge_31 : decode cX10_judge 31 = .ok (.invokestatic 243, 3) := by decide +kernel
theorem dX10_judge_34 : decode cX10_judge 34 = .ok (.istore 6, 2) := by decide +kernel
theorem dX10_judge_36 : decode cX10_judge 36 = .ok (.iload 6, 2) := by decide +kernel
theorem dX10_judge_38 : decode cX10_judge 38 = .ok (.ifCond .eq 6, 3) := by decide +kernel
theorem dX10_judge_41 : decode cX10_judge 41 = .ok (.iload 6, 2) := by decide +kernel
theorem dX10_judge_43 : decode cX10_judge 43 = .ok (.ireturn, 1) := by decide +kernel
theorem dX10_judge_44 : decode cX10_judge 44 = .ok (.aload_n 0, 1) := by decide +kernel
theorem dX10_judge_45 : decode cX10_judge 45 = .ok (.getfield 48, 3) := by decide +kernel
theorem dX10_judge_48 : decode cX10_judge 48 = .ok (.iload_n 1, 1) := by decide +kernel
theorem dX10_judge_49 : decode cX10_judge 49 = .ok (.aaload, 1) := by decide +kernel
theorem dX10_judge_50 : decode cX10_judge 50 = .ok (.getfield 247, 3) := by decide +kernel
theorem dX10_judge_53 : decode cX10_judge 53 = .ok (.istore 7, 2) := by decide +kernel
theorem dX10_judge_55 : decode cX10_judge 55 = .ok (.iload 4, 2) := by decide +kernel
theorem dX10_judge_57 : decode cX10_judge 57 = .ok (.istore 8, 2) := by decide +kernel
theorem dX10_judge_59 : decode cX10_judge 59 = .ok (.iload 5, 2) := by decide +kernel
theorem dX10_judge_61 : decode cX10_judge 61 = .ok (.istore 9, 2) := by decide +kernel
theorem dX10_judge_63 : decode cX10_judge 63 = .ok (.iconst 0, 1) := by decide +kernel
theorem dX10_judge_64 : decode cX10_judge 64 = .ok (.istore 10, 2) := by decide +kernel
theorem dX10_judge_66 : decode cX10_judge 66 = .ok (.iload 10, 2) := by decide +kernel
theorem dX10_judge_68 : decode cX10_judge 68 = .ok (.iload 7, 2) := by decide +kernel
theorem dX10_judge_70 : decode cX10_judge 70 = .ok (.if_icmp .ge 89, 3) := by decide +kernel
theorem dX10_judge_73 : decode cX10_judge 73 = .ok (.aload_n 0, 1) := by decide +kernel
theorem dX10_judge_74 : decode cX10_judge 74 = .ok (.getfield 55, 3) := by decide +kernel
theorem dX10_judge_77 : decode cX10_judge 77 = .ok (.iload_n 2, 1) := by decide +kernel
theorem dX10_judge_78 : decode cX10_judge 78 = .ok (.iload 8, 2) := by decide +kernel
theorem dX10_judge_80 : decode cX10_judge 80 = .ok (.iload 9, 2) := by decide +kernel
theorem dX10_judge_82 : decode cX10_judge 82 = .ok (.aload_n 0, 1) := by decide +kernel
theorem dX10_judge_83 : decode cX10_judge 83 = .ok (.getfield 48, 3) := by decide +kernel
theorem dX10_judge_86 : decode cX10_judge 86 = .ok (.iload_n 1, 1) := by decide +kernel
theorem dX10_judge_87 : decode cX10_judge 87 = .ok (.aaload, 1) := by decide +kernel
theorem dX10_judge_88 : decode cX10_judge 88 = .ok (.iload 10, 2) := by decide +kernel
theorem dX10_judge_90 : decode cX10_judge 90 = .ok (.invokevirtual 250, 3) := by decide +kernel
theorem dX10_judge_93 : decode cX10_judge 93 = .ok (.l2i, 1) := by decide +kernel
theorem dX10_judge_94 : decode cX10_judge 94 = .ok (.invokevirtual 196, 3) := by decide +kernel
theorem dX10_judge_97 : decode cX10_judge 97 = .ok (.istore 9, 2) := by decide +kernel
theorem dX10_judge_99 : decode cX10_judge 99 = .ok (.iload 8, 2) := by decide +kernel
theorem dX10_judge_101 : decode cX10_judge 101 = .ok (.iload 9, 2) := by decide +kernel
theorem dX10_judge_103 : decode cX10_judge 103 = .ok (.iadd, 1) := by decide +kernel
theorem dX10_judge_104 : decode cX10_judge 104 = .ok (.istore 8, 2) := by decide +kernel
theorem dX10_judge_106 : decode cX10_judge 106 = .ok (.iload 9, 2) := by decide +kernel
theorem dX10_judge_108 : decode cX10_judge 108 = .ok (.ifCond .ne 25, 3) := by decide +kernel
theorem dX10_judge_111 : decode cX10_judge 111 = .ok (.aload_n 0, 1) := by decide +kernel
theorem dX10_judge_112 : decode cX10_judge 112 = .ok (.getfield 27, 3) := by decide +kernel
theorem dX10_judge_115 : decode cX10_judge 115 = .ok (.iload_n 2, 1) := by decide +kernel
theorem dX10_judge_116 : decode cX10_judge 116 = .ok (.iload_n 3, 1) := by decide +kernel
theorem dX10_judge_117 : decode cX10_judge 117 = .ok (.iload 8, 2) := by decide +kernel
theorem dX10_judge_119 : decode cX10_judge 119 = .ok (.invokevirtual 258, 3) := by decide +kernel
theorem dX10_judge_122 : decode cX10_judge 122 = .ok (.ifCond .eq 8, 3) := by decide +kernel
theorem dX10_judge_125 : decode cX10_judge 125 = .ok (.iload 7, 2) := by decide +kernel
theorem dX10_judge_127 : decode cX10_judge 127 = .ok (.goto 5, 3) := by decide +kernel
theorem dX10_judge_130 : decode cX10_judge 130 = .ok (.iload 10, 2) := by decide +kernel
theorem dX10_judge_132 : decode cX10_judge 132 = .ok (.ireturn, 1) := by decide +kernel
theorem dX10_judge_133 : decode cX10_judge 133 = .ok (.aload_n 0, 1) := by decide +kernel
theorem dX10_judge_134 : decode cX10_judge 134 = .ok (.getfield 64, 3) := by decide +kernel
theorem dX10_judge_137 : decode cX10_judge 137 = .ok (.iload_n 2, 1) := by decide +kernel
theorem dX10_judge_138 : decode cX10_judge 138 = .ok (.iload_n 3, 1) := by decide +kernel
theorem dX10_judge_139 : decode cX10_judge 139 = .ok (.iload 8, 2) := by decide +kernel
theorem dX10_judge_141 : decode cX10_judge 141 = .ok (.iload 9, 2) := by decide +kernel
theorem dX10_judge_143 : decode cX10_judge 143 = .ok (.invokevirtual 203, 3) := by decide +kernel
theorem dX10_judge_146 : decode cX10_judge 146 = .ok (.iconst (-1), 1) := by decide +kernel
theorem dX10_judge_147 : decode cX10_judge 147 = .ok (.if_icmp .ne 6, 3) := by decide +kernel
theorem dX10_judge_150 : decode cX10_judge 150 = .ok (.iload 10, 2) := by decide +kernel
theorem dX10_judge_152 : decode cX10_judge 152 = .ok (.ireturn, 1) := by decide +kernel
theorem dX10_judge_153 : decode cX10_judge 153 = .ok (.iinc 10 1, 3) := by decide +kernel
theorem dX10_judge_156 : decode cX10_judge 156 = .ok (.goto (-90), 3) := by decide +kernel
theorem dX10_judge_159 : decode cX10_judge 159 = .ok (.iload 7, 2) := by decide +kernel
theorem dX10_judge_161 : decode cX10_judge 161 = .ok (.ireturn, 1) := by decide +kernel
set_option maxRecDepth 20000 in
theorem ggX10_pulls_X6_has : GoodIn wsX10_pulls wsX6_has := goodIn_r _ [8, 9, 74, 75, 76, 77] (by decide +kernel) (by decide +kernel)
set_option maxRecDepth 20000 in
theorem gX10_pulls_X6_has : GoodIn wsX10_pulls (wsV RX10 139 RX6 yX6_has wsX6_has) := goodIn_app (goodIn_of _ (by decide +kernel)) ggX10_pulls_X6_has
theorem dX10_pulls_0 : decode cX10_pulls 0 = .ok (.aload_n 0, 1) := by decide +kernel
theorem dX10_pulls_1 : decode cX10_pulls 1 = .ok (.getfield 27, 3) := by decide +kernel
theorem dX10_pulls_4 : decode cX10_pulls 4 = .ok (.getfield 193, 3) := by decide +kernel
theorem dX10_pulls_7 : decode cX10_pulls 7 = .ok (.iload_n 1, 1) := by decide +kernel
theorem dX10_pulls_8 : decode cX10_pulls 8 = .ok (.invokevirtual 139, 3) := by decide +kernel
theorem dX10_pulls_11 : decode cX10_pulls 11 = .ok (.ifCond .eq 21, 3) := by decide +kernel
theorem dX10_pulls_14 : decode cX10_pulls 14 = .ok (.aload_n 0, 1) := by decide +kernel
theorem dX10_pulls_15 : decode cX10_pulls 15 = .ok (.iload_n 2, 1) := by decide +kernel
theorem dX10_pulls_16 : decode cX10_pulls 16 = .ok (.invokevirtual 145, 3) := by decide +kernel
theorem dX10_pulls_19 : decode cX10_pulls 19 = .ok (.ifCond .eq 13, 3) := by decide +kernel
theorem dX10_pulls_22 : decode cX10_pulls 22 = .ok (.iload_n 3, 1) := by decide +kernel
theorem dX10_pulls_23 : decode cX10_pulls 23 = .ok (.iconst 0, 1) := by decide +kernel
theorem dX10_pulls_24 : decode cX10_pulls 24 = .ok (.bipush 16, 2) := by decide +kernel
theorem dX10_pulls_26 : decode cX10_pulls 26 = .ok (.invokestatic 176, 3) := by decide +kernel
theorem dX10_pulls_29 : decode cX10_pulls 29 = .ok (.ifCond .ne 6, 3) := by decide +kernel
theorem dX10_pulls_32 : decode cX10_pulls 32 = .ok (.bipush (-2), 2) := by decide +kernel
theorem dX10_pulls_34 : decode cX10_pulls 34 = .ok (.ireturn, 1) := by decide +kernel
theorem dX10_pulls_35 : decode cX10_pulls 35 = .ok (.aload_n 0, 1) := by decide +kernel
theorem dX10_pulls_36 : decode cX10_pulls 36 = .ok (.getfield 55, 3) := by decide +kernel
theorem dX10_pulls_39 : decode cX10_pulls 39 = .ok (.iload_n 1, 1) := by decide +kernel
theorem dX10_pulls_40 : decode cX10_pulls 40 = .ok (.iload_n 2, 1) := by decide +kernel
theorem dX10_pulls_41 : decode cX10_pulls 41 = .ok (.iload_n 3, 1) := by decide +kernel
theorem dX10_pulls_42 : decode cX10_pulls 42 = .ok (.invokevirtual 261, 3) := by decide +kernel
theorem dX10_pulls_45 : decode cX10_pulls 45 = .ok (.ireturn, 1) := by decide +kernel
set_option maxRecDepth 20000 in
theorem ggX10_passes_X6_has : GoodIn wsX10_passes wsX6_has := goodIn_r _ [8, 9, 126, 127, 128, 129] (by decide +kernel) (by decide +kernel)
set_option maxRecDepth 20000 in
theorem gX10_passes_X6_has : GoodIn wsX10_passes (wsV RX10 139 RX6 yX6_has wsX6_has) := goodIn_app (goodIn_of _ (by decide +kernel)) ggX10_passes_X6_has
theorem dX10_passes_0 : decode cX10_passes 0 = .ok (.aload_n 0, 1) := by decide +kernel
theorem dX10_passes_1 : decode cX10_passes 1 = .ok (.getfield 27, 3) := by decide +kernel
theorem dX10_passes_4 : decode cX10_passes 4 = .ok (.getfield 193, 3) := by decide +kernel
theorem dX10_passes_7 : decode cX10_passes 7 = .ok (.iload_n 1, 1) := by decide +kernel
theorem dX10_passes_8 : decode cX10_passes 8 = .ok (.invokevirtual 139, 3) := by decide +kernel
theorem dX10_passes_11 : decode cX10_passes 11 = .ok (.ifCond .eq 11, 3) := by decide +kernel
theorem dX10_passes_14 : decode cX10_passes 14 = .ok (.aload_n 0, 1) := by decide +kernel
theorem dX10_passes_15 : decode cX10_passes 15 = .ok (.iload_n 2, 1) := by decide +kernel
theorem dX10_passes_16 : decode cX10_passes 16 = .ok (.invokevirtual 145, 3) := by decide +kernel
theorem dX10_passes_19 : decode cX10_passes 19 = .ok (.ifCond .ne 6, 3) := by decide +kernel
theorem dX10_passes_22 : decode cX10_passes 22 = .ok (.bipush (-2), 2) := by decide +kernel
theorem dX10_passes_24 : decode cX10_passes 24 = .ok (.ireturn, 1) := by decide +kernel
theorem dX10_passes_25 : decode cX10_passes 25 = .ok (.aload_n 0, 1) := by decide +kernel
theorem dX10_passes_26 : decode cX10_passes 26 = .ok (.getfield 80, 3) := by decide +kernel
theorem dX10_passes_29 : decode cX10_passes 29 = .ok (.iload_n 1, 1) := by decide +kernel
theorem dX10_passes_30 : decode cX10_passes 30 = .ok (.invokevirtual 265, 3) := by decide +kernel
theorem dX10_passes_33 : decode cX10_passes 33 = .ok (.aload_n 0, 1) := by decide +kernel
theorem dX10_passes_34 : decode cX10_passes 34 = .ok (.getfield 27, 3) := by decide +kernel
theorem dX10_passes_37 : decode cX10_passes 37 = .ok (.getfield 193, 3) := by decide +kernel
theorem dX10_passes_40 : decode cX10_passes 40 = .ok (.iload_n 1, 1) := by decide +kernel
theorem dX10_passes_41 : decode cX10_passes 41 = .ok (.iconst 0, 1) := by decide +kernel
theorem dX10_passes_42 : decode cX10_passes 42 = .ok (.invokevirtual 179, 3) := by decide +kernel
theorem dX10_passes_45 : decode cX10_passes 45 = .ok (.aload_n 0, 1) := by decide +kernel
theorem dX10_passes_46 : decode cX10_passes 46 = .ok (.getfield 80, 3) := by decide +kernel
theorem dX10_passes_49 : decode cX10_passes 49 = .ok (.iload_n 1, 1) := by decide +kernel
theorem dX10_passes_50 : decode cX10_passes 50 = .ok (.iload_n 2, 1) := by decide +kernel
theorem dX10_passes_51 : decode cX10_passes 51 = .ok (.invokevirtual 268, 3) := by decide +kernel
theorem dX10_passes_54 : decode cX10_passes 54 = .ok (.iadd, 1) := by decide +kernel
theorem dX10_passes_55 : decode cX10_passes 55 = .ok (.ireturn, 1) := by decide +kernel
set_option maxRecDepth 20000 in
theorem ggX10_lets_X6_has : GoodIn wsX10_lets wsX6_has := goodIn_r _ [12, 13, 137, 138, 139, 140] (by decide +kernel) (by decide +kernel)
set_option maxRecDepth 20000 in
theorem gX10_lets_X6_has : GoodIn wsX10_lets (wsV RX10 139 RX6 yX6_has wsX6_has) := goodIn_app (goodIn_of _ (by decide +kernel)) ggX10_lets_X6_has
theorem dX10_lets_0 : decode cX10_lets 0 = .ok (.aload_n 0, 1) := by decide +kernel
theorem dX10_lets_1 : decode cX10_lets 1 = .ok (.getfield 27, 3) := by decide +kernel
theorem dX10_lets_4 : decode cX10_lets 4 = .ok (.getfield 173, 3) := by decide +kernel
theorem dX10_lets_7 : decode cX10_lets 7 = .ok (.iload_n 1, 1) := by decide +kernel
theorem dX10_lets_8 : decode cX10_lets 8 = .ok (.invokevirtual 139, 3) := by decide +kernel
theorem dX10_lets_11 : decode cX10_lets 11 = .ok (.ifCond .eq 12, 3) := by decide +kernel
theorem dX10_lets_14 : decode cX10_lets 14 = .ok (.iload_n 2, 1) := by decide +kernel
theorem dX10_lets_15 : decode cX10_lets 15 = .ok (.iconst 0, 1) := by decide +kernel
theorem dX10_lets_16 : decode cX10_lets 16 = .ok (.iconst 2, 1) := by decide +kernel
theorem dX10_lets_17 : decode cX10_lets 17 = .ok (.invokestatic 176, 3) := by decide +kernel
theorem dX10_lets_20 : decode cX10_lets 20 = .ok (.ifCond .ne 6, 3) := by decide +kernel
theorem dX10_lets_23 : decode cX10_lets 23 = .ok (.bipush (-2), 2) := by decide +kernel
theorem dX10_lets_25 : decode cX10_lets 25 = .ok (.ireturn, 1) := by decide +kernel
theorem dX10_lets_26 : decode cX10_lets 26 = .ok (.aload_n 0, 1) := by decide +kernel
theorem dX10_lets_27 : decode cX10_lets 27 = .ok (.getfield 27, 3) := by decide +kernel
theorem dX10_lets_30 : decode cX10_lets 30 = .ok (.getfield 173, 3) := by decide +kernel
theorem dX10_lets_33 : decode cX10_lets 33 = .ok (.iload_n 1, 1) := by decide +kernel
theorem dX10_lets_34 : decode cX10_lets 34 = .ok (.iconst 0, 1) := by decide +kernel
theorem dX10_lets_35 : decode cX10_lets 35 = .ok (.invokevirtual 179, 3) := by decide +kernel
theorem dX10_lets_38 : decode cX10_lets 38 = .ok (.istore_n 3, 1) := by decide +kernel
theorem dX10_lets_39 : decode cX10_lets 39 = .ok (.aload_n 0, 1) := by decide +kernel
theorem dX10_lets_40 : decode cX10_lets 40 = .ok (.getfield 80, 3) := by decide +kernel
theorem dX10_lets_43 : decode cX10_lets 43 = .ok (.iload_n 3, 1) := by decide +kernel
theorem dX10_lets_44 : decode cX10_lets 44 = .ok (.invokevirtual 265, 3) := by decide +kernel
theorem dX10_lets_47 : decode cX10_lets 47 = .ok (.aload_n 0, 1) := by decide +kernel
theorem dX10_lets_48 : decode cX10_lets 48 = .ok (.getfield 80, 3) := by decide +kernel
theorem dX10_lets_51 : decode cX10_lets 51 = .ok (.iload_n 1, 1) := by decide +kernel
theorem dX10_lets_52 : decode cX10_lets 52 = .ok (.invokevirtual 271, 3) := by decide +kernel
theorem dX10_lets_55 : decode cX10_lets 55 = .ok (.ifCond .ne 5, 3) := by decide +kernel
theorem dX10_lets_58 : decode cX10_lets 58 = .ok (.iconst (-1), 1) := by decide +kernel
theorem dX10_lets_59 : decode cX10_lets 59 = .ok (.ireturn, 1) := by decide +kernel
theorem dX10_lets_60 : decode cX10_lets 60 = .ok (.iload_n 2, 1) := by decide +kernel
theorem dX10_lets_61 : decode cX10_lets 61 = .ok (.ifCond .ne 26, 3) := by decide +kernel
theorem dX10_lets_64 : decode cX10_lets 64 = .ok (.aload_n 0, 1) := by decide +kernel
theorem dX10_lets_65 : decode cX10_lets 65 = .ok (.getfield 27, 3) := by decide +kernel
theorem dX10_lets_68 : decode cX10_lets 68 = .ok (.getfield 193, 3) := by decide +kernel
theorem dX10_lets_71 : decode cX10_lets 71 = .ok (.iload_n 3, 1) := by decide +kernel
theorem dX10_lets_72 : decode cX10_lets 72 = .ok (.iconst 0, 1) := by decide +kernel
theorem dX10_lets_73 : decode cX10_lets 73 = .ok (.invokevirtual 179, 3) := by decide +kernel
theorem dX10_lets_76 : decode cX10_lets 76 = .ok (.aload_n 0, 1) := by decide +kernel
theorem dX10_lets_77 : decode cX10_lets 77 = .ok (.getfield 80, 3) := by decide +kernel
theorem dX10_lets_80 : decode cX10_lets 80 = .ok (.getfield 274, 3) := by decide +kernel
theorem dX10_lets_83 : decode cX10_lets 83 = .ok (.iload_n 1, 1) := by decide +kernel
theorem dX10_lets_84 : decode cX10_lets 84 = .ok (.iaload, 1) := by decide +kernel
theorem dX10_lets_85 : decode cX10_lets 85 = .ok (.iadd, 1) := by decide +kernel
theorem dX10_lets_86 : decode cX10_lets 86 = .ok (.ireturn, 1) := by decide +kernel
theorem dX10_lets_87 : decode cX10_lets 87 = .ok (.iload_n 2, 1) := by decide +kernel
theorem dX10_lets_88 : decode cX10_lets 88 = .ok (.iconst 1, 1) := by decide +kernel
theorem dX10_lets_89 : decode cX10_lets 89 = .ok (.if_icmp .ne 15, 3) := by decide +kernel
theorem dX10_lets_92 : decode cX10_lets 92 = .ok (.aload_n 0, 1) := by decide +kernel
theorem dX10_lets_93 : decode cX10_lets 93 = .ok (.getfield 80, 3) := by decide +kernel
theorem dX10_lets_96 : decode cX10_lets 96 = .ok (.getfield 277, 3) := by decide +kernel
theorem dX10_lets_99 : decode cX10_lets 99 = .ok (.iload_n 1, 1) := by decide +kernel
theorem dX10_lets_100 : decode cX10_lets 100 = .ok (.iaload, 1) := by decide +kernel
theorem dX10_lets_101 : decode cX10_lets 101 = .ok (.goto 12, 3) := by decide +kernel
theorem dX10_lets_104 : decode cX10_lets 104 = .ok (.aload_n 0, 1) := by decide +kernel
theorem dX10_lets_105 : decode cX10_lets 105 = .ok (.getfield 80, 3) := by decide +kernel
theorem dX10_lets_108 : decode cX10_lets 108 = .ok (.getfield 280, 3) := by decide +kernel
theorem dX10_lets_111 : decode cX10_lets 111 = .ok (.iload_n 1, 1) := by decide +kernel
theorem dX10_lets_112 : decode cX10_lets 112 = .ok (.iaload, 1) := by decide +kernel
theorem dX10_lets_113 : decode cX10_lets 113 = .ok (.ireturn, 1) := by decide +kernel
set_option maxRecDepth 20000 in
theorem ggX10_comes_X6_has : GoodIn wsX10_comes wsX6_has := goodIn_r _ [10, 11, 227, 228, 229, 230] (by decide +kernel) (by decide +kernel)
set_option maxRecDepth 20000 in
theorem gX10_comes_X6_has : GoodIn wsX10_comes (wsV RX10 139 RX6 yX6_has wsX6_has) := goodIn_app (goodIn_of _ (by decide +kernel)) ggX10_comes_X6_has
theorem dX10_comes_0 : decode cX10_comes 0 = .ok (.aload_n 0, 1) := by decide +kernel
theorem dX10_comes_1 : decode cX10_comes 1 = .ok (.getfield 27, 3) := by decide +kernel
theorem dX10_comes_4 : decode cX10_comes 4 = .ok (.getfield 173, 3) := by decide +kernel
theorem dX10_comes_7 : decode cX10_comes 7 = .ok (.iload_n 1, 1) := by decide +kernel
theorem dX10_comes_8 : decode cX10_comes 8 = .ok (.invokevirtual 139, 3) := by decide +kernel
theorem dX10_comes_11 : decode cX10_comes 11 = .ok (.ifCond .eq 12, 3) := by decide +kernel
theorem dX10_comes_14 : decode cX10_comes 14 = .ok (.iload_n 2, 1) := by decide +kernel
theorem dX10_comes_15 : decode cX10_comes 15 = .ok (.iconst 0, 1) := by decide +kernel
theorem dX10_comes_16 : decode cX10_comes 16 = .ok (.iconst 2, 1) := by decide +kernel
theorem dX10_comes_17 : decode cX10_comes 17 = .ok (.invokestatic 176, 3) := by decide +kernel
theorem dX10_comes_20 : decode cX10_comes 20 = .ok (.ifCond .ne 6, 3) := by decide +kernel
theorem dX10_comes_23 : decode cX10_comes 23 = .ok (.bipush (-2), 2) := by decide +kernel
theorem dX10_comes_25 : decode cX10_comes 25 = .ok (.ireturn, 1) := by decide +kernel
theorem dX10_comes_26 : decode cX10_comes 26 = .ok (.aload_n 0, 1) := by decide +kernel
theorem dX10_comes_27 : decode cX10_comes 27 = .ok (.iload_n 1, 1) := by decide +kernel
theorem dX10_comes_28 : decode cX10_comes 28 = .ok (.invokevirtual 292, 3) := by decide +kernel
theorem dX10_comes_31 : decode cX10_comes 31 = .ok (.aload_n 0, 1) := by decide +kernel
theorem dX10_comes_32 : decode cX10_comes 32 = .ok (.getfield 80, 3) := by decide +kernel
theorem dX10_comes_35 : decode cX10_comes 35 = .ok (.getfield 295, 3) := by decide +kernel
theorem dX10_comes_38 : decode cX10_comes 38 = .ok (.iload_n 1, 1) := by decide +kernel
theorem dX10_comes_39 : decode cX10_comes 39 = .ok (.baload, 1) := by decide +kernel
theorem dX10_comes_40 : decode cX10_comes 40 = .ok (.ifCond .ne 15, 3) := by decide +kernel
theorem dX10_comes_43 : decode cX10_comes 43 = .ok (.iload_n 2, 1) := by decide +kernel
theorem dX10_comes_44 : decode cX10_comes 44 = .ok (.iconst 2, 1) := by decide +kernel
theorem dX10_comes_45 : decode cX10_comes 45 = .ok (.if_icmp .ne 8, 3) := by decide +kernel
theorem dX10_comes_48 : decode cX10_comes 48 = .ok (.ldc 242, 2) := by decide +kernel
theorem dX10_comes_50 : decode cX10_comes 50 = .ok (.goto 4, 3) := by decide +kernel
theorem dX10_comes_53 : decode cX10_comes 53 = .ok (.iconst (-1), 1) := by decide +kernel
theorem dX10_comes_54 : decode cX10_comes 54 = .ok (.ireturn, 1) := by decide +kernel
theorem dX10_comes_55 : decode cX10_comes 55 = .ok (.iload_n 2, 1) := by decide +kernel
theorem dX10_comes_56 : decode cX10_comes 56 = .ok (.iconst 1, 1) := by decide +kernel
theorem dX10_comes_57 : decode cX10_comes 57 = .ok (.if_icmp .ne 18, 3) := by decide +kernel
theorem dX10_comes_60 : decode cX10_comes 60 = .ok (.aload_n 0, 1) := by decide +kernel
theorem dX10_comes_61 : decode cX10_comes 61 = .ok (.iload_n 1, 1) := by decide +kernel
theorem dX10_comes_62 : decode cX10_comes 62 = .ok (.invokevirtual 298, 3) := by decide +kernel
theorem dX10_comes_65 : decode cX10_comes 65 = .ok (.aload_n 0, 1) := by decide +kernel
theorem dX10_comes_66 : decode cX10_comes 66 = .ok (.getfield 80, 3) := by decide +kernel
theorem dX10_comes_69 : decode cX10_comes 69 = .ok (.iload_n 1, 1) := by decide +kernel
theorem dX10_comes_70 : decode cX10_comes 70 = .ok (.invokevirtual 301, 3) := by decide +kernel
theorem dX10_comes_73 : decode cX10_comes 73 = .ok (.iadd, 1) := by decide +kernel
theorem dX10_comes_74 : decode cX10_comes 74 = .ok (.ireturn, 1) := by decide +kernel
theorem dX10_comes_75 : decode cX10_comes 75 = .ok (.aload_n 0, 1) := by decide +kernel
theorem dX10_comes_76 : decode cX10_comes 76 = .ok (.getfield 80, 3) := by decide +kernel
theorem dX10_comes_79 : decode cX10_comes 79 = .ok (.iload_n 1, 1) := by decide +kernel
theorem dX10_comes_80 : decode cX10_comes 80 = .ok (.invokevirtual 304, 3) := by decide +kernel
theorem dX10_comes_83 : decode cX10_comes 83 = .ok (.istore_n 3, 1) := by decide +kernel
theorem dX10_comes_84 : decode cX10_comes 84 = .ok (.iload_n 2, 1) := by decide +kernel
theorem dX10_comes_85 : decode cX10_comes 85 = .ok (.ifCond .ne 7, 3) := by decide +kernel
theorem dX10_comes_88 : decode cX10_comes 88 = .ok (.iload_n 3, 1) := by decide +kernel
theorem dX10_comes_89 : decode cX10_comes 89 = .ok (.goto 9, 3) := by decide +kernel
theorem dX10_comes_92 : decode cX10_comes 92 = .ok (.aload_n 0, 1) := by decide +kernel
theorem dX10_comes_93 : decode cX10_comes 93 = .ok (.iload_n 1, 1) := by decide +kernel
theorem dX10_comes_94 : decode cX10_comes 94 = .ok (.iload_n 3, 1) := by decide +kernel
theorem dX10_comes_95 : decode cX10_comes 95 = .ok (.invokevirtual 307, 3) := by decide +kernel
theorem dX10_comes_98 : decode cX10_comes 98 = .ok (.ireturn, 1) := by decide +kernel
set_option maxRecDepth 20000 in
theorem ggX10_clear_X6_has : GoodIn wsX10_clear wsX6_has := goodIn_r _ [8, 9, 206, 207, 208, 209] (by decide +kernel) (by decide +kernel)
set_option maxRecDepth 20000 in
theorem gX10_clear_X6_has : GoodIn wsX10_clear (wsV RX10 139 RX6 yX6_has wsX6_has) := goodIn_app (goodIn_of _ (by decide +kernel)) ggX10_clear_X6_has
theorem dX10_clear_0 : decode cX10_clear 0 = .ok (.aload_n 0, 1) := by decide +kernel
theorem dX10_clear_1 : decode cX10_clear 1 = .ok (.getfield 27, 3) := by decide +kernel
theorem dX10_clear_4 : decode cX10_clear 4 = .ok (.getfield 173, 3) := by decide +kernel
theorem dX10_clear_7 : decode cX10_clear 7 = .ok (.iload_n 1, 1) := by decide +kernel
theorem dX10_clear_8 : decode cX10_clear 8 = .ok (.invokevirtual 139, 3) := by decide +kernel
theorem dX10_clear_11 : decode cX10_clear 11 = .ok (.ifCond .ne 6, 3) := by decide +kernel
theorem dX10_clear_14 : decode cX10_clear 14 = .ok (.bipush (-2), 2) := by decide +kernel
theorem dX10_clear_16 : decode cX10_clear 16 = .ok (.ireturn, 1) := by decide +kernel
theorem dX10_clear_17 : decode cX10_clear 17 = .ok (.aload_n 0, 1) := by decide +kernel
theorem dX10_clear_18 : decode cX10_clear 18 = .ok (.iload_n 1, 1) := by decide +kernel
theorem dX10_clear_19 : decode cX10_clear 19 = .ok (.invokevirtual 292, 3) := by decide +kernel
theorem dX10_clear_22 : decode cX10_clear 22 = .ok (.aload_n 0, 1) := by decide +kernel
theorem dX10_clear_23 : decode cX10_clear 23 = .ok (.getfield 80, 3) := by decide +kernel
theorem dX10_clear_26 : decode cX10_clear 26 = .ok (.iload_n 1, 1) := by decide +kernel
theorem dX10_clear_27 : decode cX10_clear 27 = .ok (.invokevirtual 271, 3) := by decide +kernel
theorem dX10_clear_30 : decode cX10_clear 30 = .ok (.ifCond .eq 14, 3) := by decide +kernel
theorem dX10_clear_33 : decode cX10_clear 33 = .ok (.aload_n 0, 1) := by decide +kernel
theorem dX10_clear_34 : decode cX10_clear 34 = .ok (.getfield 80, 3) := by decide +kernel
theorem dX10_clear_37 : decode cX10_clear 37 = .ok (.iload_n 1, 1) := by decide +kernel
theorem dX10_clear_38 : decode cX10_clear 38 = .ok (.invokevirtual 315, 3) := by decide +kernel
theorem dX10_clear_41 : decode cX10_clear 41 = .ok (.ifCond .eq 5, 3) := by decide +kernel
theorem dX10_clear_44 : decode cX10_clear 44 = .ok (.iconst (-1), 1) := by decide +kernel
theorem dX10_clear_45 : decode cX10_clear 45 = .ok (.ireturn, 1) := by decide +kernel
theorem dX10_clear_46 : decode cX10_clear 46 = .ok (.aload_n 0, 1) := by decide +kernel
theorem dX10_clear_47 : decode cX10_clear 47 = .ok (.iload_n 1, 1) := by decide +kernel
theorem dX10_clear_48 : decode cX10_clear 48 = .ok (.invokevirtual 298, 3) := by decide +kernel
theorem dX10_clear_51 : decode cX10_clear 51 = .ok (.aload_n 0, 1) := by decide +kernel
theorem dX10_clear_52 : decode cX10_clear 52 = .ok (.getfield 80, 3) := by decide +kernel
theorem dX10_clear_55 : decode cX10_clear 55 = .ok (.iload_n 1, 1) := by decide +kernel
theorem dX10_clear_56 : decode cX10_clear 56 = .ok (.invokevirtual 301, 3) := by decide +kernel
theorem dX10_clear_59 : decode cX10_clear 59 = .ok (.iadd, 1) := by decide +kernel
theorem dX10_clear_60 : decode cX10_clear 60 = .ok (.ireturn, 1) := by decide +kernel
set_option maxRecDepth 20000 in
theorem ggX10_good_X10_hasLine : GoodIn wsX10_good wsX10_hasLine := goodIn_r _ [6, 7, 8, 189, 190, 191, 192, 193, 194, 195, 196, 197, 198, 199, 200, 201, 202, 203, 204, 205, 206, 207, 208, 209, 210, 211, 212] (by decide +kernel) (by decide +kernel)
set_option maxRecDepth 20000 in
theorem gX10_good_X10_hasLine : GoodIn wsX10_good (wsV RX10 131 RX10 yX10_hasLine wsX10_hasLine) := goodIn_app (goodIn_of _ (by decide +kernel)) ggX10_good_X10_hasLine
theorem dX10_good_0 : decode cX10_good 0 = .ok (.aload_n 0, 1) := by decide +kernel
theorem dX10_good_1 : decode cX10_good 1 = .ok (.invokevirtual 131, 3) := by decide +kernel
theorem dX10_good_4 : decode cX10_good 4 = .ok (.ifCond .ne 5, 3) := by decide +kernel
theorem dX10_good_7 : decode cX10_good 7 = .ok (.iconst (-1), 1) := by decide +kernel
theorem dX10_good_8 : decode cX10_good 8 = .ok (.ireturn, 1) := by decide +kernel
theorem dX10_good_9 : decode cX10_good 9 = .ok (.aload_n 0, 1) := by decide +kernel
theorem dX10_good_10 : decode cX10_good 10 = .ok (.invokevirtual 318, 3) := by decide +kernel
theorem dX10_good_13 : decode cX10_good 13 = .ok (.aload_n 0, 1) := by decide +kernel
theorem dX10_good_14 : decode cX10_good 14 = .ok (.getfield 80, 3) := by decide +kernel
theorem dX10_good_17 : decode cX10_good 17 = .ok (.invokevirtual 321, 3) := by decide +kernel
theorem dX10_good_20 : decode cX10_good 20 = .ok (.aload_n 0, 1) := by decide +kernel
theorem dX10_good_21 : decode cX10_good 21 = .ok (.getfield 80, 3) := by decide +kernel
theorem dX10_good_24 : decode cX10_good 24 = .ok (.invokevirtual 324, 3) := by decide +kernel
theorem dX10_good_27 : decode cX10_good 27 = .ok (.invokestatic 328, 3) := by decide +kernel
theorem dX10_good_30 : decode cX10_good 30 = .ok (.ireturn, 1) := by decide +kernel
set_option maxRecDepth 20000 in
theorem ggX10_breach_X10_hasLine : GoodIn wsX10_breach wsX10_hasLine := goodIn_r _ [10, 11, 12, 258, 259, 260, 261, 262, 263, 264, 265, 266, 267, 268, 269, 270, 271, 272, 285, 286, 287, 288, 289, 290, 291, 292, 293] (by decide +kernel) (by decide +kernel)
set_option maxRecDepth 20000 in
theorem gX10_breach_X10_hasLine : GoodIn wsX10_breach (wsV RX10 131 RX10 yX10_hasLine wsX10_hasLine) := goodIn_app (goodIn_of _ (by decide +kernel)) ggX10_breach_X10_hasLine
theorem dX10_breach_0 : decode cX10_breach 0 = .ok (.aload_n 0, 1) := by decide +kernel
theorem dX10_breach_1 : decode cX10_breach 1 = .ok (.invokevirtual 131, 3) := by decide +kernel
theorem dX10_breach_4 : decode cX10_breach 4 = .ok (.ifCond .eq 12, 3) := by decide +kernel
theorem dX10_breach_7 : decode cX10_breach 7 = .ok (.iload_n 1, 1) := by decide +kernel
theorem dX10_breach_8 : decode cX10_breach 8 = .ok (.iconst 0, 1) := by decide +kernel
theorem dX10_breach_9 : decode cX10_breach 9 = .ok (.iconst 2, 1) := by decide +kernel
theorem dX10_breach_10 : decode cX10_breach 10 = .ok (.invokestatic 176, 3) := by decide +kernel
theorem dX10_breach_13 : decode cX10_breach 13 = .ok (.ifCond .ne 6, 3) := by decide +kernel
theorem dX10_breach_16 : decode cX10_breach 16 = .ok (.bipush (-2), 2) := by decide +kernel
theorem dX10_breach_18 : decode cX10_breach 18 = .ok (.ireturn, 1) := by decide +kernel
theorem dX10_breach_19 : decode cX10_breach 19 = .ok (.aload_n 0, 1) := by decide +kernel
theorem dX10_breach_20 : decode cX10_breach 20 = .ok (.invokevirtual 318, 3) := by decide +kernel
theorem dX10_breach_23 : decode cX10_breach 23 = .ok (.aload_n 0, 1) := by decide +kernel
theorem dX10_breach_24 : decode cX10_breach 24 = .ok (.getfield 80, 3) := by decide +kernel
theorem dX10_breach_27 : decode cX10_breach 27 = .ok (.invokevirtual 321, 3) := by decide +kernel
theorem dX10_breach_30 : decode cX10_breach 30 = .ok (.aload_n 0, 1) := by decide +kernel
theorem dX10_breach_31 : decode cX10_breach 31 = .ok (.getfield 89, 3) := by decide +kernel
theorem dX10_breach_34 : decode cX10_breach 34 = .ok (.invokevirtual 333, 3) := by decide +kernel
theorem dX10_breach_37 : decode cX10_breach 37 = .ok (.ifCond .ne 5, 3) := by decide +kernel
theorem dX10_breach_40 : decode cX10_breach 40 = .ok (.iconst (-1), 1) := by decide +kernel
theorem dX10_breach_41 : decode cX10_breach 41 = .ok (.ireturn, 1) := by decide +kernel
theorem dX10_breach_42 : decode cX10_breach 42 = .ok (.iload_n 1, 1) := by decide +kernel
theorem dX10_breach_43 : decode cX10_breach 43 = .ok (.ifCond .ne 11, 3) := by decide +kernel
theorem dX10_breach_46 : decode cX10_breach 46 = .ok (.aload_n 0, 1) := by decide +kernel
theorem dX10_breach_47 : decode cX10_breach 47 = .ok (.getfield 89, 3) := by decide +kernel
theorem dX10_breach_50 : decode cX10_breach 50 = .ok (.getfield 336, 3) := by decide +kernel
theorem dX10_breach_53 : decode cX10_breach 53 = .ok (.ireturn, 1) := by decide +kernel
theorem dX10_breach_54 : decode cX10_breach 54 = .ok (.iload_n 1, 1) := by decide +kernel
theorem dX10_breach_55 : decode cX10_breach 55 = .ok (.iconst 1, 1) := by decide +kernel
theorem dX10_breach_56 : decode cX10_breach 56 = .ok (.if_icmp .ne 13, 3) := by decide +kernel
theorem dX10_breach_59 : decode cX10_breach 59 = .ok (.aload_n 0, 1) := by decide +kernel
theorem dX10_breach_60 : decode cX10_breach 60 = .ok (.getfield 89, 3) := by decide +kernel
theorem dX10_breach_63 : decode cX10_breach 63 = .ok (.getfield 339, 3) := by decide +kernel
theorem dX10_breach_66 : decode cX10_breach 66 = .ok (.goto 10, 3) := by decide +kernel
theorem dX10_breach_69 : decode cX10_breach 69 = .ok (.aload_n 0, 1) := by decide +kernel
theorem dX10_breach_70 : decode cX10_breach 70 = .ok (.getfield 89, 3) := by decide +kernel
theorem dX10_breach_73 : decode cX10_breach 73 = .ok (.getfield 342, 3) := by decide +kernel
theorem dX10_breach_76 : decode cX10_breach 76 = .ok (.ireturn, 1) := by decide +kernel
set_option maxRecDepth 20000 in
theorem ggX10_mistake_X10_hasLine : GoodIn wsX10_mistake wsX10_hasLine := goodIn_r _ [9, 2, 10, 271, 272, 273, 274, 275, 276, 277, 278, 279, 280, 281, 282, 283, 284, 285, 286, 287, 288, 289, 290, 291, 292, 293, 294] (by decide +kernel) (by decide +kernel)
set_option maxRecDepth 20000 in
theorem gX10_mistake_X10_hasLine : GoodIn wsX10_mistake (wsV RX10 131 RX10 yX10_hasLine wsX10_hasLine) := goodIn_app (goodIn_of _ (by decide +kernel)) ggX10_mistake_X10_hasLine
theorem dX10_mistake_0 : decode cX10_mistake 0 = .ok (.aload_n 0, 1) := by decide +kernel
theorem dX10_mistake_1 : decode cX10_mistake 1 = .ok (.invokevirtual 131, 3) := by decide +kernel
theorem dX10_mistake_4 : decode cX10_mistake 4 = .ok (.ifCond .eq 22, 3) := by decide +kernel
theorem dX10_mistake_7 : decode cX10_mistake 7 = .ok (.iload_n 1, 1) := by decide +kernel
theorem dX10_mistake_8 : decode cX10_mistake 8 = .ok (.iconst 0, 1) := by decide +kernel
theorem dX10_mistake_9 : decode cX10_mistake 9 = .ok (.iconst 2, 1) := by decide +kernel
theorem dX10_mistake_10 : decode cX10_mistake 10 = .ok (.invokestatic 176, 3) := by decide +kernel
theorem dX10_mistake_13 : decode cX10_mistake 13 = .ok (.ifCond .eq 13, 3) := by decide +kernel
theorem dX10_mistake_16 : decode cX10_mistake 16 = .ok (.iload_n 2, 1) := by decide +kernel
theorem dX10_mistake_17 : decode cX10_mistake 17 = .ok (.iconst 0, 1) := by decide +kernel
theorem dX10_mistake_18 : decode cX10_mistake 18 = .ok (.bipush 99, 2) := by decide +kernel
theorem dX10_mistake_20 : decode cX10_mistake 20 = .ok (.invokestatic 176, 3) := by decide +kernel
theorem dX10_mistake_23 : decode cX10_mistake 23 = .ok (.ifCond .ne 6, 3) := by decide +kernel
theorem dX10_mistake_26 : decode cX10_mistake 26 = .ok (.bipush (-2), 2) := by decide +kernel
theorem dX10_mistake_28 : decode cX10_mistake 28 = .ok (.ireturn, 1) := by decide +kernel
theorem dX10_mistake_29 : decode cX10_mistake 29 = .ok (.aload_n 0, 1) := by decide +kernel
theorem dX10_mistake_30 : decode cX10_mistake 30 = .ok (.invokevirtual 318, 3) := by decide +kernel
theorem dX10_mistake_33 : decode cX10_mistake 33 = .ok (.aload_n 0, 1) := by decide +kernel
theorem dX10_mistake_34 : decode cX10_mistake 34 = .ok (.getfield 80, 3) := by decide +kernel
theorem dX10_mistake_37 : decode cX10_mistake 37 = .ok (.invokevirtual 321, 3) := by decide +kernel
theorem dX10_mistake_40 : decode cX10_mistake 40 = .ok (.iconst 0, 1) := by decide +kernel
theorem dX10_mistake_41 : decode cX10_mistake 41 = .ok (.istore_n 3, 1) := by decide +kernel
theorem dX10_mistake_42 : decode cX10_mistake 42 = .ok (.iload_n 3, 1) := by decide +kernel
theorem dX10_mistake_43 : decode cX10_mistake 43 = .ok (.aload_n 0, 1) := by decide +kernel
theorem dX10_mistake_44 : decode cX10_mistake 44 = .ok (.getfield 27, 3) := by decide +kernel
theorem dX10_mistake_47 : decode cX10_mistake 47 = .ok (.getfield 173, 3) := by decide +kernel
theorem dX10_mistake_50 : decode cX10_mistake 50 = .ok (.getfield 283, 3) := by decide +kernel
theorem dX10_mistake_53 : decode cX10_mistake 53 = .ok (.if_icmp .ge 21, 3) := by decide +kernel
theorem dX10_mistake_56 : decode cX10_mistake 56 = .ok (.aload_n 0, 1) := by decide +kernel
theorem dX10_mistake_57 : decode cX10_mistake 57 = .ok (.iload_n 3, 1) := by decide +kernel
theorem dX10_mistake_58 : decode cX10_mistake 58 = .ok (.iload_n 1, 1) := by decide +kernel
theorem dX10_mistake_59 : decode cX10_mistake 59 = .ok (.iload_n 2, 1) := by decide +kernel
theorem dX10_mistake_60 : decode cX10_mistake 60 = .ok (.invokevirtual 345, 3) := by decide +kernel
theorem dX10_mistake_63 : decode cX10_mistake 63 = .ok (.ifCond .eq 5, 3) := by decide +kernel
theorem dX10_mistake_66 : decode cX10_mistake 66 = .ok (.iload_n 3, 1) := by decide +kernel
theorem dX10_mistake_67 : decode cX10_mistake 67 = .ok (.ireturn, 1) := by decide +kernel
theorem dX10_mistake_68 : decode cX10_mistake 68 = .ok (.iinc 3 1, 3) := by decide +kernel
theorem dX10_mistake_71 : decode cX10_mistake 71 = .ok (.goto (-29), 3) := by decide +kernel
theorem dX10_mistake_74 : decode cX10_mistake 74 = .ok (.iconst (-1), 1) := by decide +kernel
theorem dX10_mistake_75 : decode cX10_mistake 75 = .ok (.ireturn, 1) := by decide +kernel
set_option maxRecDepth 20000 in
theorem ggX10_weak_X10_hasLine : GoodIn wsX10_weak wsX10_hasLine := goodIn_r _ [9, 2, 10, 271, 272, 273, 274, 275, 276, 277, 278, 279, 280, 281, 282, 283, 284, 285, 286, 287, 288, 289, 290, 291, 292, 293, 294] (by decide +kernel) (by decide +kernel)
set_option maxRecDepth 20000 in
theorem gX10_weak_X10_hasLine : GoodIn wsX10_weak (wsV RX10 131 RX10 yX10_hasLine wsX10_hasLine) := goodIn_app (goodIn_of _ (by decide +kernel)) ggX10_weak_X10_hasLine
theorem dX10_weak_0 : decode cX10_weak 0 = .ok (.aload_n 0, 1) := by decide +kernel
theorem dX10_weak_1 : decode cX10_weak 1 = .ok (.invokevirtual 131, 3) := by decide +kernel
theorem dX10_weak_4 : decode cX10_weak 4 = .ok (.ifCond .eq 13, 3) := by decide +kernel
theorem dX10_weak_7 : decode cX10_weak 7 = .ok (.iload_n 1, 1) := by decide +kernel
theorem dX10_weak_8 : decode cX10_weak 8 = .ok (.iconst 0, 1) := by decide +kernel
theorem dX10_weak_9 : decode cX10_weak 9 = .ok (.bipush 99, 2) := by decide +kernel
theorem dX10_weak_11 : decode cX10_weak 11 = .ok (.invokestatic 176, 3) := by decide +kernel
theorem dX10_weak_14 : decode cX10_weak 14 = .ok (.ifCond .ne 6, 3) := by decide +kernel
theorem dX10_weak_17 : decode cX10_weak 17 = .ok (.bipush (-2), 2) := by decide +kernel
theorem dX10_weak_19 : decode cX10_weak 19 = .ok (.ireturn, 1) := by decide +kernel
theorem dX10_weak_20 : decode cX10_weak 20 = .ok (.aload_n 0, 1) := by decide +kernel
theorem dX10_weak_21 : decode cX10_weak 21 = .ok (.invokevirtual 318, 3) := by decide +kernel
theorem dX10_weak_24 : decode cX10_weak 24 = .ok (.aload_n 0, 1) := by decide +kernel
theorem dX10_weak_25 : decode cX10_weak 25 = .ok (.getfield 80, 3) := by decide +kernel
theorem dX10_weak_28 : decode cX10_weak 28 = .ok (.invokevirtual 321, 3) := by decide +kernel
theorem dX10_weak_31 : decode cX10_weak 31 = .ok (.iconst 0, 1) := by decide +kernel
theorem dX10_weak_32 : decode cX10_weak 32 = .ok (.istore_n 2, 1) := by decide +kernel
theorem dX10_weak_33 : decode cX10_weak 33 = .ok (.iconst 0, 1) := by decide +kernel
theorem dX10_weak_34 : decode cX10_weak 34 = .ok (.istore_n 3, 1) := by decide +kernel
theorem dX10_weak_35 : decode cX10_weak 35 = .ok (.iload_n 3, 1) := by decide +kernel
theorem dX10_weak_36 : decode cX10_weak 36 = .ok (.aload_n 0, 1) := by decide +kernel
theorem dX10_weak_37 : decode cX10_weak 37 = .ok (.getfield 27, 3) := by decide +kernel
theorem dX10_weak_40 : decode cX10_weak 40 = .ok (.getfield 173, 3) := by decide +kernel
theorem dX10_weak_43 : decode cX10_weak 43 = .ok (.getfield 283, 3) := by decide +kernel
theorem dX10_weak_46 : decode cX10_weak 46 = .ok (.if_icmp .ge 38, 3) := by decide +kernel
theorem dX10_weak_49 : decode cX10_weak 49 = .ok (.iconst 0, 1) := by decide +kernel
theorem dX10_weak_50 : decode cX10_weak 50 = .ok (.istore 4, 2) := by decide +kernel
theorem dX10_weak_52 : decode cX10_weak 52 = .ok (.iload 4, 2) := by decide +kernel
theorem dX10_weak_54 : decode cX10_weak 54 = .ok (.iconst 3, 1) := by decide +kernel
theorem dX10_weak_55 : decode cX10_weak 55 = .ok (.if_icmp .ge 23, 3) := by decide +kernel
theorem dX10_weak_58 : decode cX10_weak 58 = .ok (.aload_n 0, 1) := by decide +kernel
theorem dX10_weak_59 : decode cX10_weak 59 = .ok (.iload_n 3, 1) := by decide +kernel
theorem dX10_weak_60 : decode cX10_weak 60 = .ok (.iload 4, 2) := by decide +kernel
theorem dX10_weak_62 : decode cX10_weak 62 = .ok (.iload_n 1, 1) := by decide +kernel
theorem dX10_weak_63 : decode cX10_weak 63 = .ok (.invokevirtual 345, 3) := by decide +kernel
theorem dX10_weak_66 : decode cX10_weak 66 = .ok (.ifCond .eq 6, 3) := by decide +kernel
theorem dX10_weak_69 : decode cX10_weak 69 = .ok (.iinc 2 1, 3) := by decide +kernel
theorem dX10_weak_72 : decode cX10_weak 72 = .ok (.iinc 4 1, 3) := by decide +kernel
theorem dX10_weak_75 : decode cX10_weak 75 = .ok (.goto (-23), 3) := by decide +kernel
theorem dX10_weak_78 : decode cX10_weak 78 = .ok (.iinc 3 1, 3) := by decide +kernel
theorem dX10_weak_81 : decode cX10_weak 81 = .ok (.goto (-46), 3) := by decide +kernel
theorem dX10_weak_84 : decode cX10_weak 84 = .ok (.iload_n 2, 1) := by decide +kernel
theorem dX10_weak_85 : decode cX10_weak 85 = .ok (.ireturn, 1) := by decide +kernel
set_option maxRecDepth 20000 in
theorem ggX10_start_X6_has : GoodIn wsX10_start wsX6_has := goodIn_r _ [9, 10, 284, 285, 286, 287] (by decide +kernel) (by decide +kernel)
set_option maxRecDepth 20000 in
theorem gX10_start_X6_has : GoodIn wsX10_start (wsV RX10 139 RX6 yX6_has wsX6_has) := goodIn_app (goodIn_of _ (by decide +kernel)) ggX10_start_X6_has
theorem dX10_start_0 : decode cX10_start 0 = .ok (.aload_n 0, 1) := by decide +kernel
theorem dX10_start_1 : decode cX10_start 1 = .ok (.getfield 27, 3) := by decide +kernel
theorem dX10_start_4 : decode cX10_start 4 = .ok (.getfield 193, 3) := by decide +kernel
theorem dX10_start_7 : decode cX10_start 7 = .ok (.iload_n 1, 1) := by decide +kernel
theorem dX10_start_8 : decode cX10_start 8 = .ok (.invokevirtual 139, 3) := by decide +kernel
theorem dX10_start_11 : decode cX10_start 11 = .ok (.ifCond .ne 6, 3) := by decide +kernel
theorem dX10_start_14 : decode cX10_start 14 = .ok (.bipush (-2), 2) := by decide +kernel
theorem dX10_start_16 : decode cX10_start 16 = .ok (.ireturn, 1) := by decide +kernel
theorem dX10_start_17 : decode cX10_start 17 = .ok (.aload_n 0, 1) := by decide +kernel
theorem dX10_start_18 : decode cX10_start 18 = .ok (.invokevirtual 318, 3) := by decide +kernel
theorem dX10_start_21 : decode cX10_start 21 = .ok (.aload_n 0, 1) := by decide +kernel
theorem dX10_start_22 : decode cX10_start 22 = .ok (.getfield 80, 3) := by decide +kernel
theorem dX10_start_25 : decode cX10_start 25 = .ok (.invokevirtual 321, 3) := by decide +kernel
theorem dX10_start_28 : decode cX10_start 28 = .ok (.aload_n 0, 1) := by decide +kernel
theorem dX10_start_29 : decode cX10_start 29 = .ok (.getfield 27, 3) := by decide +kernel
theorem dX10_start_32 : decode cX10_start 32 = .ok (.getfield 193, 3) := by decide +kernel
theorem dX10_start_35 : decode cX10_start 35 = .ok (.iload_n 1, 1) := by decide +kernel
theorem dX10_start_36 : decode cX10_start 36 = .ok (.iconst 0, 1) := by decide +kernel
theorem dX10_start_37 : decode cX10_start 37 = .ok (.invokevirtual 179, 3) := by decide +kernel
theorem dX10_start_40 : decode cX10_start 40 = .ok (.istore_n 2, 1) := by decide +kernel
theorem dX10_start_41 : decode cX10_start 41 = .ok (.iconst (-1), 1) := by decide +kernel
theorem dX10_start_42 : decode cX10_start 42 = .ok (.istore_n 3, 1) := by decide +kernel
theorem dX10_start_43 : decode cX10_start 43 = .ok (.iconst 0, 1) := by decide +kernel
theorem dX10_start_44 : decode cX10_start 44 = .ok (.istore 4, 2) := by decide +kernel
theorem dX10_start_46 : decode cX10_start 46 = .ok (.iconst 0, 1) := by decide +kernel
theorem dX10_start_47 : decode cX10_start 47 = .ok (.istore 5, 2) := by decide +kernel
theorem dX10_start_49 : decode cX10_start 49 = .ok (.iload 5, 2) := by decide +kernel
theorem dX10_start_51 : decode cX10_start 51 = .ok (.sipush 300, 3) := by decide +kernel
theorem dX10_start_54 : decode cX10_start 54 = .ok (.if_icmp .gt 67, 3) := by decide +kernel
theorem dX10_start_57 : decode cX10_start 57 = .ok (.iload_n 3, 1) := by decide +kernel
theorem dX10_start_58 : decode cX10_start 58 = .ok (.iconst (-1), 1) := by decide +kernel
theorem dX10_start_59 : decode cX10_start 59 = .ok (.if_icmp .ne 62, 3) := by decide +kernel
theorem dX10_start_62 : decode cX10_start 62 = .ok (.iload 4, 2) := by decide +kernel
theorem dX10_start_64 : decode cX10_start 64 = .ok (.ifCond .ne 57, 3) := by decide +kernel
theorem dX10_start_67 : decode cX10_start 67 = .ok (.aload_n 0, 1) := by decide +kernel
theorem dX10_start_68 : decode cX10_start 68 = .ok (.getfield 27, 3) := by decide +kernel
theorem dX10_start_71 : decode cX10_start 71 = .ok (.getfield 193, 3) := by decide +kernel
theorem dX10_start_74 : decode cX10_start 74 = .ok (.iload_n 1, 1) := by decide +kernel
theorem dX10_start_75 : decode cX10_start 75 = .ok (.iconst 0, 1) := by decide +kernel
theorem dX10_start_76 : decode cX10_start 76 = .ok (.iload 5, 2) := by decide +kernel
theorem dX10_start_78 : decode cX10_start 78 = .ok (.invokevirtual 189, 3) := by decide +kernel
theorem dX10_start_81 : decode cX10_start 81 = .ok (.aload_n 0, 1) := by decide +kernel
theorem dX10_start_82 : decode cX10_start 82 = .ok (.getfield 89, 3) := by decide +kernel
theorem dX10_start_85 : decode cX10_start 85 = .ok (.invokevirtual 333, 3) := by decide +kernel
theorem dX10_start_88 : decode cX10_start 88 = .ok (.ifCond .eq 24, 3) := by decide +kernel
theorem dX10_start_91 : decode cX10_start 91 = .ok (.aload_n 0, 1) := by decide +kernel
theorem dX10_start_92 : decode cX10_start 92 = .ok (.getfield 89, 3) := by decide +kernel
theorem dX10_start_95 : decode cX10_start 95 = .ok (.iload_n 1, 1) := by decide +kernel
theorem dX10_start_96 : decode cX10_start 96 = .ok (.invokevirtual 357, 3) := by decide +kernel
theorem dX10_start_99 : decode cX10_start 99 = .ok (.ifCond .ne 7, 3) := by decide +kernel
theorem dX10_start_102 : decode cX10_start 102 = .ok (.iconst 1, 1) := by decide +kernel
theorem dX10_start_103 : decode cX10_start 103 = .ok (.goto 4, 3) := by decide +kernel
theorem dX10_start_106 : decode cX10_start 106 = .ok (.iconst 0, 1) := by decide +kernel
theorem dX10_start_107 : decode cX10_start 107 = .ok (.istore 4, 2) := by decide +kernel
theorem dX10_start_109 : decode cX10_start 109 = .ok (.goto 6, 3) := by decide +kernel
theorem dX10_start_112 : decode cX10_start 112 = .ok (.iload 5, 2) := by decide +kernel
theorem dX10_start_114 : decode cX10_start 114 = .ok (.istore_n 3, 1) := by decide +kernel
theorem dX10_start_115 : decode cX10_start 115 = .ok (.iinc 5 1, 3) := by decide +kernel
theorem dX10_start_118 : decode cX10_start 118 = .ok (.goto (-69), 3) := by decide +kernel
theorem dX10_start_121 : decode cX10_start 121 = .ok (.aload_n 0, 1) := by decide +kernel
theorem dX10_start_122 : decode cX10_start 122 = .ok (.getfield 27, 3) := by decide +kernel
theorem dX10_start_125 : decode cX10_start 125 = .ok (.getfield 193, 3) := by decide +kernel
theorem dX10_start_128 : decode cX10_start 128 = .ok (.iload_n 1, 1) := by decide +kernel
theorem dX10_start_129 : decode cX10_start 129 = .ok (.iconst 0, 1) := by decide +kernel
theorem dX10_start_130 : decode cX10_start 130 = .ok (.iload_n 2, 1) := by decide +kernel
theorem dX10_start_131 : decode cX10_start 131 = .ok (.invokevirtual 189, 3) := by decide +kernel
theorem dX10_start_134 : decode cX10_start 134 = .ok (.iload_n 3, 1) := by decide +kernel
theorem dX10_start_135 : decode cX10_start 135 = .ok (.ireturn, 1) := by decide +kernel
set_option maxRecDepth 20000 in
theorem ggX10_days_X10_hasDay : GoodIn wsX10_days wsX10_hasDay := goodIn_r _ [7, 8, 9, 10, 11, 6, 12, 13, 14, 15, 16, 17, 286, 287, 288, 289, 290, 291, 292, 293, 294, 295, 296, 297, 298, 299, 300, 301, 302, 303, 304, 305, 306, 307, 308, 309] (by decide +kernel) (by decide +kernel)
set_option maxRecDepth 20000 in
theorem gX10_days_X10_hasDay : GoodIn wsX10_days (wsV RX10 360 RX10 yX10_hasDay wsX10_hasDay) := goodIn_app (goodIn_of _ (by decide +kernel)) ggX10_days_X10_hasDay
theorem dX10_days_0 : decode cX10_days 0 = .ok (.aload_n 0, 1) := by decide +kernel
theorem dX10_days_1 : decode cX10_days 1 = .ok (.iload_n 1, 1) := by decide +kernel
theorem dX10_days_2 : decode cX10_days 2 = .ok (.iload_n 3, 1) := by decide +kernel
theorem dX10_days_3 : decode cX10_days 3 = .ok (.iload 4, 2) := by decide +kernel
theorem dX10_days_5 : decode cX10_days 5 = .ok (.invokevirtual 360, 3) := by decide +kernel
theorem dX10_days_8 : decode cX10_days 8 = .ok (.ifCond .eq 13, 3) := by decide +kernel
theorem dX10_days_11 : decode cX10_days 11 = .ok (.iload_n 2, 1) := by decide +kernel
theorem dX10_days_12 : decode cX10_days 12 = .ok (.iconst 1, 1) := by decide +kernel
theorem dX10_days_13 : decode cX10_days 13 = .ok (.bipush 20, 2) := by decide +kernel
theorem dX10_days_15 : decode cX10_days 15 = .ok (.invokestatic 176, 3) := by decide +kernel
theorem dX10_days_18 : decode cX10_days 18 = .ok (.ifCond .ne 6, 3) := by decide +kernel
theorem dX10_days_21 : decode cX10_days 21 = .ok (.bipush (-2), 2) := by decide +kernel
theorem dX10_days_23 : decode cX10_days 23 = .ok (.ireturn, 1) := by decide +kernel
theorem dX10_days_24 : decode cX10_days 24 = .ok (.aload_n 0, 1) := by decide +kernel
theorem dX10_days_25 : decode cX10_days 25 = .ok (.invokevirtual 318, 3) := by decide +kernel
theorem dX10_days_28 : decode cX10_days 28 = .ok (.iconst 0, 1) := by decide +kernel
theorem dX10_days_29 : decode cX10_days 29 = .ok (.istore 5, 2) := by decide +kernel
theorem dX10_days_31 : decode cX10_days 31 = .ok (.iconst 0, 1) := by decide +kernel
theorem dX10_days_32 : decode cX10_days 32 = .ok (.istore 6, 2) := by decide +kernel
theorem dX10_days_34 : decode cX10_days 34 = .ok (.iload 6, 2) := by decide +kernel
theorem dX10_days_36 : decode cX10_days 36 = .ok (.iload_n 2, 1) := by decide +kernel
theorem dX10_days_37 : decode cX10_days 37 = .ok (.if_icmp .ge 40, 3) := by decide +kernel
theorem dX10_days_40 : decode cX10_days 40 = .ok (.aload_n 0, 1) := by decide +kernel
theorem dX10_days_41 : decode cX10_days 41 = .ok (.iload_n 1, 1) := by decide +kernel
theorem dX10_days_42 : decode cX10_days 42 = .ok (.iload 6, 2) := by decide +kernel
theorem dX10_days_44 : decode cX10_days 44 = .ok (.iadd, 1) := by decide +kernel
theorem dX10_days_45 : decode cX10_days 45 = .ok (.iload_n 3, 1) := by decide +kernel
theorem dX10_days_46 : decode cX10_days 46 = .ok (.iload 4, 2) := by decide +kernel
theorem dX10_days_48 : decode cX10_days 48 = .ok (.invokevirtual 363, 3) := by decide +kernel
theorem dX10_days_51 : decode cX10_days 51 = .ok (.aload_n 0, 1) := by decide +kernel
theorem dX10_days_52 : decode cX10_days 52 = .ok (.getfield 80, 3) := by decide +kernel
theorem dX10_days_55 : decode cX10_days 55 = .ok (.invokevirtual 321, 3) := by decide +kernel
theorem dX10_days_58 : decode cX10_days 58 = .ok (.aload_n 0, 1) := by decide +kernel
theorem dX10_days_59 : decode cX10_days 59 = .ok (.getfield 89, 3) := by decide +kernel
theorem dX10_days_62 : decode cX10_days 62 = .ok (.invokevirtual 333, 3) := by decide +kernel
theorem dX10_days_65 : decode cX10_days 65 = .ok (.ifCond .eq 6, 3) := by decide +kernel
theorem dX10_days_68 : decode cX10_days 68 = .ok (.iinc 5 1, 3) := by decide +kernel
theorem dX10_days_71 : decode cX10_days 71 = .ok (.iinc 6 1, 3) := by decide +kernel
theorem dX10_days_74 : decode cX10_days 74 = .ok (.goto (-40), 3) := by decide +kernel
theorem dX10_days_77 : decode cX10_days 77 = .ok (.aload_n 0, 1) := by decide +kernel
theorem dX10_days_78 : decode cX10_days 78 = .ok (.getfield 80, 3) := by decide +kernel
theorem dX10_days_81 : decode cX10_days 81 = .ok (.invokevirtual 354, 3) := by decide +kernel
theorem dX10_days_84 : decode cX10_days 84 = .ok (.iload 5, 2) := by decide +kernel
theorem dX10_days_86 : decode cX10_days 86 = .ok (.ireturn, 1) := by decide +kernel
set_option maxRecDepth 20000 in
theorem ggX10_day_X10_hasDay : GoodIn wsX10_day wsX10_hasDay := goodIn_r _ [6, 7, 8, 9, 10, 5, 11, 12, 13, 14, 15, 16, 214, 215, 216, 217, 218, 219, 220, 221, 222, 223, 224, 225, 226, 227, 228, 229, 230, 231, 232, 233, 234, 235, 236, 237] (by decide +kernel) (by decide +kernel)
set_option maxRecDepth 20000 in
theorem gX10_day_X10_hasDay : GoodIn wsX10_day (wsV RX10 360 RX10 yX10_hasDay wsX10_hasDay) := goodIn_app (goodIn_of _ (by decide +kernel)) ggX10_day_X10_hasDay
theorem dX10_day_0 : decode cX10_day 0 = .ok (.aload_n 0, 1) := by decide +kernel
theorem dX10_day_1 : decode cX10_day 1 = .ok (.iload_n 1, 1) := by decide +kernel
theorem dX10_day_2 : decode cX10_day 2 = .ok (.iload_n 2, 1) := by decide +kernel
theorem dX10_day_3 : decode cX10_day 3 = .ok (.iload_n 3, 1) := by decide +kernel
theorem dX10_day_4 : decode cX10_day 4 = .ok (.invokevirtual 360, 3) := by decide +kernel
theorem dX10_day_7 : decode cX10_day 7 = .ok (.ifCond .ne 6, 3) := by decide +kernel
theorem dX10_day_10 : decode cX10_day 10 = .ok (.bipush (-2), 2) := by decide +kernel
theorem dX10_day_12 : decode cX10_day 12 = .ok (.ireturn, 1) := by decide +kernel
theorem dX10_day_13 : decode cX10_day 13 = .ok (.aload_n 0, 1) := by decide +kernel
theorem dX10_day_14 : decode cX10_day 14 = .ok (.invokevirtual 318, 3) := by decide +kernel
theorem dX10_day_17 : decode cX10_day 17 = .ok (.aload_n 0, 1) := by decide +kernel
theorem dX10_day_18 : decode cX10_day 18 = .ok (.iload_n 1, 1) := by decide +kernel
theorem dX10_day_19 : decode cX10_day 19 = .ok (.iload_n 2, 1) := by decide +kernel
theorem dX10_day_20 : decode cX10_day 20 = .ok (.iload_n 3, 1) := by decide +kernel
theorem dX10_day_21 : decode cX10_day 21 = .ok (.invokevirtual 363, 3) := by decide +kernel
theorem dX10_day_24 : decode cX10_day 24 = .ok (.aload_n 0, 1) := by decide +kernel
theorem dX10_day_25 : decode cX10_day 25 = .ok (.getfield 80, 3) := by decide +kernel
theorem dX10_day_28 : decode cX10_day 28 = .ok (.invokevirtual 321, 3) := by decide +kernel
theorem dX10_day_31 : decode cX10_day 31 = .ok (.aload_n 0, 1) := by decide +kernel
theorem dX10_day_32 : decode cX10_day 32 = .ok (.getfield 80, 3) := by decide +kernel
theorem dX10_day_35 : decode cX10_day 35 = .ok (.invokevirtual 354, 3) := by decide +kernel
theorem dX10_day_38 : decode cX10_day 38 = .ok (.aload_n 0, 1) := by decide +kernel
theorem dX10_day_39 : decode cX10_day 39 = .ok (.getfield 80, 3) := by decide +kernel
theorem dX10_day_42 : decode cX10_day 42 = .ok (.invokevirtual 324, 3) := by decide +kernel
theorem dX10_day_45 : decode cX10_day 45 = .ok (.ireturn, 1) := by decide +kernel
set_option maxRecDepth 20000 in
theorem ggX10_hasDay_X10_hasLine : GoodIn wsX10_hasDay wsX10_hasLine := goodIn_r _ [6, 7, 8, 12, 13, 14, 15, 16, 17, 18, 19, 20, 21, 22, 23, 24, 25, 26, 27, 28, 29, 30, 31, 32, 33, 34, 35] (by decide +kernel) (by decide +kernel)
set_option maxRecDepth 20000 in
theorem gX10_hasDay_X10_hasLine : GoodIn wsX10_hasDay (wsV RX10 131 RX10 yX10_hasLine wsX10_hasLine) := goodIn_app (goodIn_of _ (by decide +kernel)) ggX10_hasDay_X10_hasLine
theorem dX10_hasDay_0 : decode cX10_hasDay 0 = .ok (.aload_n 0, 1) := by decide +kernel
theorem dX10_hasDay_1 : decode cX10_hasDay 1 = .ok (.invokevirtual 131, 3) := by decide +kernel
theorem dX10_hasDay_4 : decode cX10_hasDay 4 = .ok (.ifCond .eq 38, 3) := by decide +kernel
theorem dX10_hasDay_7 : decode cX10_hasDay 7 = .ok (.iload_n 1, 1) := by decide +kernel
theorem dX10_hasDay_8 : decode cX10_hasDay 8 = .ok (.iconst 0, 1) := by decide +kernel
theorem dX10_hasDay_9 : decode cX10_hasDay 9 = .ok (.ldc_w 366, 3) := by decide +kernel
theorem dX10_hasDay_12 : decode cX10_hasDay 12 = .ok (.invokestatic 176, 3) := by decide +kernel
theorem dX10_hasDay_15 : decode cX10_hasDay 15 = .ok (.ifCond .eq 27, 3) := by decide +kernel
theorem dX10_hasDay_18 : decode cX10_hasDay 18 = .ok (.iload_n 2, 1) := by decide +kernel
theorem dX10_hasDay_19 : decode cX10_hasDay 19 = .ok (.iconst 0, 1) := by decide +kernel
theorem dX10_hasDay_20 : decode cX10_hasDay 20 = .ok (.bipush 100, 2) := by decide +kernel
theorem dX10_hasDay_22 : decode cX10_hasDay 22 = .ok (.invokestatic 176, 3) := by decide +kernel
theorem dX10_hasDay_25 : decode cX10_hasDay 25 = .ok (.ifCond .eq 17, 3) := by decide +kernel
theorem dX10_hasDay_28 : decode cX10_hasDay 28 = .ok (.iload_n 3, 1) := by decide +kernel
theorem dX10_hasDay_29 : decode cX10_hasDay 29 = .ok (.iconst 0, 1) := by decide +kernel
theorem dX10_hasDay_30 : decode cX10_hasDay 30 = .ok (.bipush 99, 2) := by decide +kernel
theorem dX10_hasDay_32 : decode cX10_hasDay 32 = .ok (.invokestatic 176, 3) := by decide +kernel
theorem dX10_hasDay_35 : decode cX10_hasDay 35 = .ok (.ifCond .eq 7, 3) := by decide +kernel
theorem dX10_hasDay_38 : decode cX10_hasDay 38 = .ok (.iconst 1, 1) := by decide +kernel
theorem dX10_hasDay_39 : decode cX10_hasDay 39 = .ok (.goto 4, 3) := by decide +kernel
theorem dX10_hasDay_42 : decode cX10_hasDay 42 = .ok (.iconst 0, 1) := by decide +kernel
theorem dX10_hasDay_43 : decode cX10_hasDay 43 = .ok (.ireturn, 1) := by decide +kernel
set_option maxRecDepth 20000 in
theorem ggX10_shunts_X6_has : GoodIn wsX10_shunts wsX6_has := goodIn_r _ [8, 9, 94, 95, 96, 97] (by decide +kernel) (by decide +kernel)
set_option maxRecDepth 20000 in
theorem gX10_shunts_X6_has : GoodIn wsX10_shunts (wsV RX10 139 RX6 yX6_has wsX6_has) := goodIn_app (goodIn_of _ (by decide +kernel)) ggX10_shunts_X6_has
theorem dX10_shunts_0 : decode cX10_shunts 0 = .ok (.aload_n 0, 1) := by decide +kernel
theorem dX10_shunts_1 : decode cX10_shunts 1 = .ok (.getfield 27, 3) := by decide +kernel
theorem dX10_shunts_4 : decode cX10_shunts 4 = .ok (.getfield 193, 3) := by decide +kernel
theorem dX10_shunts_7 : decode cX10_shunts 7 = .ok (.iload_n 1, 1) := by decide +kernel
theorem dX10_shunts_8 : decode cX10_shunts 8 = .ok (.invokevirtual 139, 3) := by decide +kernel
theorem dX10_shunts_11 : decode cX10_shunts 11 = .ok (.ifCond .eq 12, 3) := by decide +kernel
theorem dX10_shunts_14 : decode cX10_shunts 14 = .ok (.iload_n 2, 1) := by decide +kernel
theorem dX10_shunts_15 : decode cX10_shunts 15 = .ok (.iconst 0, 1) := by decide +kernel
theorem dX10_shunts_16 : decode cX10_shunts 16 = .ok (.iconst 1, 1) := by decide +kernel
theorem dX10_shunts_17 : decode cX10_shunts 17 = .ok (.invokestatic 176, 3) := by decide +kernel
theorem dX10_shunts_20 : decode cX10_shunts 20 = .ok (.ifCond .ne 6, 3) := by decide +kernel
theorem dX10_shunts_23 : decode cX10_shunts 23 = .ok (.bipush (-2), 2) := by decide +kernel
theorem dX10_shunts_25 : decode cX10_shunts 25 = .ok (.ireturn, 1) := by decide +kernel
theorem dX10_shunts_26 : decode cX10_shunts 26 = .ok (.aload_n 0, 1) := by decide +kernel
theorem dX10_shunts_27 : decode cX10_shunts 27 = .ok (.getfield 96, 3) := by decide +kernel
theorem dX10_shunts_30 : decode cX10_shunts 30 = .ok (.aload_n 0, 1) := by decide +kernel
theorem dX10_shunts_31 : decode cX10_shunts 31 = .ok (.getfield 27, 3) := by decide +kernel
theorem dX10_shunts_34 : decode cX10_shunts 34 = .ok (.iload_n 1, 1) := by decide +kernel
theorem dX10_shunts_35 : decode cX10_shunts 35 = .ok (.invokevirtual 385, 3) := by decide +kernel
theorem dX10_shunts_38 : decode cX10_shunts 38 = .ok (.istore_n 3, 1) := by decide +kernel
theorem dX10_shunts_39 : decode cX10_shunts 39 = .ok (.iload_n 2, 1) := by decide +kernel
theorem dX10_shunts_40 : decode cX10_shunts 40 = .ok (.ifCond .ne 10, 3) := by decide +kernel
theorem dX10_shunts_43 : decode cX10_shunts 43 = .ok (.iload_n 3, 1) := by decide +kernel
theorem dX10_shunts_44 : decode cX10_shunts 44 = .ok (.invokestatic 328, 3) := by decide +kernel
theorem dX10_shunts_47 : decode cX10_shunts 47 = .ok (.goto 4, 3) := by decide +kernel
theorem dX10_shunts_50 : decode cX10_shunts 50 = .ok (.iload_n 3, 1) := by decide +kernel
theorem dX10_shunts_51 : decode cX10_shunts 51 = .ok (.ireturn, 1) := by decide +kernel
set_option maxRecDepth 20000 in
theorem ggX10_order_X6_has : GoodIn wsX10_order wsX6_has := goodIn_r _ [10, 11, 59, 60, 61, 62] (by decide +kernel) (by decide +kernel)
set_option maxRecDepth 20000 in
theorem gX10_order_X6_has : GoodIn wsX10_order (wsV RX10 139 RX6 yX6_has wsX6_has) := goodIn_app (goodIn_of _ (by decide +kernel)) ggX10_order_X6_has
theorem dX10_order_0 : decode cX10_order 0 = .ok (.aload_n 0, 1) := by decide +kernel
theorem dX10_order_1 : decode cX10_order 1 = .ok (.getfield 27, 3) := by decide +kernel
theorem dX10_order_4 : decode cX10_order 4 = .ok (.getfield 193, 3) := by decide +kernel
theorem dX10_order_7 : decode cX10_order 7 = .ok (.iload_n 1, 1) := by decide +kernel
theorem dX10_order_8 : decode cX10_order 8 = .ok (.invokevirtual 139, 3) := by decide +kernel
theorem dX10_order_11 : decode cX10_order 11 = .ok (.ifCond .ne 6, 3) := by decide +kernel
theorem dX10_order_14 : decode cX10_order 14 = .ok (.bipush (-2), 2) := by decide +kernel
theorem dX10_order_16 : decode cX10_order 16 = .ok (.ireturn, 1) := by decide +kernel
theorem dX10_order_17 : decode cX10_order 17 = .ok (.iconst 0, 1) := by decide +kernel
theorem dX10_order_18 : decode cX10_order 18 = .ok (.istore_n 3, 1) := by decide +kernel
theorem dX10_order_19 : decode cX10_order 19 = .ok (.iload_n 3, 1) := by decide +kernel
theorem dX10_order_20 : decode cX10_order 20 = .ok (.aload_n 0, 1) := by decide +kernel
theorem dX10_order_21 : decode cX10_order 21 = .ok (.getfield 27, 3) := by decide +kernel
theorem dX10_order_24 : decode cX10_order 24 = .ok (.getfield 173, 3) := by decide +kernel
theorem dX10_order_27 : decode cX10_order 27 = .ok (.getfield 283, 3) := by decide +kernel
theorem dX10_order_30 : decode cX10_order 30 = .ok (.if_icmp .ge 43, 3) := by decide +kernel
theorem dX10_order_33 : decode cX10_order 33 = .ok (.aload_n 0, 1) := by decide +kernel
theorem dX10_order_34 : decode cX10_order 34 = .ok (.getfield 27, 3) := by decide +kernel
theorem dX10_order_37 : decode cX10_order 37 = .ok (.getfield 173, 3) := by decide +kernel
theorem dX10_order_40 : decode cX10_order 40 = .ok (.iload_n 3, 1) := by decide +kernel
theorem dX10_order_41 : decode cX10_order 41 = .ok (.iconst 0, 1) := by decide +kernel
theorem dX10_order_42 : decode cX10_order 42 = .ok (.invokevirtual 179, 3) := by decide +kernel
theorem dX10_order_45 : decode cX10_order 45 = .ok (.iload_n 1, 1) := by decide +kernel
theorem dX10_order_46 : decode cX10_order 46 = .ok (.if_icmp .ne 21, 3) := by decide +kernel
theorem dX10_order_49 : decode cX10_order 49 = .ok (.aload_n 0, 1) := by decide +kernel
theorem dX10_order_50 : decode cX10_order 50 = .ok (.getfield 96, 3) := by decide +kernel
theorem dX10_order_53 : decode cX10_order 53 = .ok (.aload_n 0, 1) := by decide +kernel
theorem dX10_order_54 : decode cX10_order 54 = .ok (.getfield 27, 3) := by decide +kernel
theorem dX10_order_57 : decode cX10_order 57 = .ok (.iload_n 3, 1) := by decide +kernel
theorem dX10_order_58 : decode cX10_order 58 = .ok (.invokevirtual 389, 3) := by decide +kernel
theorem dX10_order_61 : decode cX10_order 61 = .ok (.iload_n 2, 1) := by decide +kernel
theorem dX10_order_62 : decode cX10_order 62 = .ok (.if_icmp .ne 5, 3) := by decide +kernel
theorem dX10_order_65 : decode cX10_order 65 = .ok (.iload_n 3, 1) := by decide +kernel
theorem dX10_order_66 : decode cX10_order 66 = .ok (.ireturn, 1) := by decide +kernel
theorem dX10_order_67 : decode cX10_order 67 = .ok (.iinc 3 1, 3) := by decide +kernel
theorem dX10_order_70 : decode cX10_order 70 = .ok (.goto (-51), 3) := by decide +kernel
theorem dX10_order_73 : decode cX10_order 73 = .ok (.iconst (-1), 1) := by decide +kernel
theorem dX10_order_74 : decode cX10_order 74 = .ok (.ireturn, 1) := by decide +kernel
set_option maxRecDepth 20000 in
theorem ggX10_blocked_X6_has : GoodIn wsX10_blocked wsX6_has := goodIn_r _ [12, 13, 57, 58, 59, 60] (by decide +kernel) (by decide +kernel)
set_option maxRecDepth 20000 in
theorem gX10_blocked_X6_has : GoodIn wsX10_blocked (wsV RX10 139 RX6 yX6_has wsX6_has) := goodIn_app (goodIn_of _ (by decide +kernel)) ggX10_blocked_X6_has
theorem dX10_blocked_0 : decode cX10_blocked 0 = .ok (.aload_n 0, 1) := by decide +kernel
theorem dX10_blocked_1 : decode cX10_blocked 1 = .ok (.getfield 27, 3) := by decide +kernel
theorem dX10_blocked_4 : decode cX10_blocked 4 = .ok (.getfield 193, 3) := by decide +kernel
theorem dX10_blocked_7 : decode cX10_blocked 7 = .ok (.iload_n 1, 1) := by decide +kernel
theorem dX10_blocked_8 : decode cX10_blocked 8 = .ok (.invokevirtual 139, 3) := by decide +kernel
theorem dX10_blocked_11 : decode cX10_blocked 11 = .ok (.ifCond .ne 6, 3) := by decide +kernel
theorem dX10_blocked_14 : decode cX10_blocked 14 = .ok (.bipush (-2), 2) := by decide +kernel
theorem dX10_blocked_16 : decode cX10_blocked 16 = .ok (.ireturn, 1) := by decide +kernel
theorem dX10_blocked_17 : decode cX10_blocked 17 = .ok (.iconst (-1), 1) := by decide +kernel
theorem dX10_blocked_18 : decode cX10_blocked 18 = .ok (.istore_n 2, 1) := by decide +kernel
theorem dX10_blocked_19 : decode cX10_blocked 19 = .ok (.aload_n 0, 1) := by decide +kernel
theorem dX10_blocked_20 : decode cX10_blocked 20 = .ok (.getfield 27, 3) := by decide +kernel
theorem dX10_blocked_23 : decode cX10_blocked 23 = .ok (.iload_n 1, 1) := by decide +kernel
theorem dX10_blocked_24 : decode cX10_blocked 24 = .ok (.invokevirtual 392, 3) := by decide +kernel
theorem dX10_blocked_27 : decode cX10_blocked 27 = .ok (.iconst 1, 1) := by decide +kernel
theorem dX10_blocked_28 : decode cX10_blocked 28 = .ok (.isub, 1) := by decide +kernel
theorem dX10_blocked_29 : decode cX10_blocked 29 = .ok (.istore_n 3, 1) := by decide +kernel
theorem dX10_blocked_30 : decode cX10_blocked 30 = .ok (.iload_n 3, 1) := by decide +kernel
theorem dX10_blocked_31 : decode cX10_blocked 31 = .ok (.ifCond .lt 51, 3) := by decide +kernel
theorem dX10_blocked_34 : decode cX10_blocked 34 = .ok (.aload_n 0, 1) := by decide +kernel
theorem dX10_blocked_35 : decode cX10_blocked 35 = .ok (.getfield 27, 3) := by decide +kernel
theorem dX10_blocked_38 : decode cX10_blocked 38 = .ok (.iload_n 1, 1) := by decide +kernel
theorem dX10_blocked_39 : decode cX10_blocked 39 = .ok (.iload_n 3, 1) := by decide +kernel
theorem dX10_blocked_40 : decode cX10_blocked 40 = .ok (.invokevirtual 395, 3) := by decide +kernel
theorem dX10_blocked_43 : decode cX10_blocked 43 = .ok (.istore 4, 2) := by decide +kernel
theorem dX10_blocked_45 : decode cX10_blocked 45 = .ok (.aload_n 0, 1) := by decide +kernel
theorem dX10_blocked_46 : decode cX10_blocked 46 = .ok (.getfield 27, 3) := by decide +kernel
theorem dX10_blocked_49 : decode cX10_blocked 49 = .ok (.getfield 173, 3) := by decide +kernel
theorem dX10_blocked_52 : decode cX10_blocked 52 = .ok (.iload 4, 2) := by decide +kernel
theorem dX10_blocked_54 : decode cX10_blocked 54 = .ok (.iconst 3, 1) := by decide +kernel
theorem dX10_blocked_55 : decode cX10_blocked 55 = .ok (.invokevirtual 179, 3) := by decide +kernel
theorem dX10_blocked_58 : decode cX10_blocked 58 = .ok (.istore 5, 2) := by decide +kernel
theorem dX10_blocked_60 : decode cX10_blocked 60 = .ok (.iload 5, 2) := by decide +kernel
theorem dX10_blocked_62 : decode cX10_blocked 62 = .ok (.iload_n 2, 1) := by decide +kernel
theorem dX10_blocked_63 : decode cX10_blocked 63 = .ok (.if_icmp .ge 6, 3) := by decide +kernel
theorem dX10_blocked_66 : decode cX10_blocked 66 = .ok (.iload 4, 2) := by decide +kernel
theorem dX10_blocked_68 : decode cX10_blocked 68 = .ok (.ireturn, 1) := by decide +kernel
theorem dX10_blocked_69 : decode cX10_blocked 69 = .ok (.iload_n 2, 1) := by decide +kernel
theorem dX10_blocked_70 : decode cX10_blocked 70 = .ok (.iload 5, 2) := by decide +kernel
theorem dX10_blocked_72 : decode cX10_blocked 72 = .ok (.invokestatic 398, 3) := by decide +kernel
theorem dX10_blocked_75 : decode cX10_blocked 75 = .ok (.istore_n 2, 1) := by decide +kernel
theorem dX10_blocked_76 : decode cX10_blocked 76 = .ok (.iinc 3 (-1), 3) := by decide +kernel
theorem dX10_blocked_79 : decode cX10_blocked 79 = .ok (.goto (-49), 3) := by decide +kernel
theorem dX10_blocked_82 : decode cX10_blocked 82 = .ok (.iconst (-1), 1) := by decide +kernel
theorem dX10_blocked_83 : decode cX10_blocked 83 = .ok (.ireturn, 1) := by decide +kernel
set_option maxRecDepth 20000 in
theorem ggX10_saved_X6_has : GoodIn wsX10_saved wsX6_has := goodIn_r _ [10, 11, 146, 147, 148, 149] (by decide +kernel) (by decide +kernel)
set_option maxRecDepth 20000 in
theorem gX10_saved_X6_has : GoodIn wsX10_saved (wsV RX10 139 RX6 yX6_has wsX6_has) := goodIn_app (goodIn_of _ (by decide +kernel)) ggX10_saved_X6_has
theorem dX10_saved_0 : decode cX10_saved 0 = .ok (.aload_n 0, 1) := by decide +kernel
theorem dX10_saved_1 : decode cX10_saved 1 = .ok (.getfield 27, 3) := by decide +kernel
theorem dX10_saved_4 : decode cX10_saved 4 = .ok (.getfield 193, 3) := by decide +kernel
theorem dX10_saved_7 : decode cX10_saved 7 = .ok (.iload_n 1, 1) := by decide +kernel
theorem dX10_saved_8 : decode cX10_saved 8 = .ok (.invokevirtual 139, 3) := by decide +kernel
theorem dX10_saved_11 : decode cX10_saved 11 = .ok (.ifCond .eq 13, 3) := by decide +kernel
theorem dX10_saved_14 : decode cX10_saved 14 = .ok (.iload_n 2, 1) := by decide +kernel
theorem dX10_saved_15 : decode cX10_saved 15 = .ok (.iconst 0, 1) := by decide +kernel
theorem dX10_saved_16 : decode cX10_saved 16 = .ok (.bipush 99, 2) := by decide +kernel
theorem dX10_saved_18 : decode cX10_saved 18 = .ok (.invokestatic 176, 3) := by decide +kernel
theorem dX10_saved_21 : decode cX10_saved 21 = .ok (.ifCond .ne 6, 3) := by decide +kernel
theorem dX10_saved_24 : decode cX10_saved 24 = .ok (.ldc 242, 2) := by decide +kernel
theorem dX10_saved_26 : decode cX10_saved 26 = .ok (.ireturn, 1) := by decide +kernel
theorem dX10_saved_27 : decode cX10_saved 27 = .ok (.aload_n 0, 1) := by decide +kernel
theorem dX10_saved_28 : decode cX10_saved 28 = .ok (.getfield 80, 3) := by decide +kernel
theorem dX10_saved_31 : decode cX10_saved 31 = .ok (.iload_n 1, 1) := by decide +kernel
theorem dX10_saved_32 : decode cX10_saved 32 = .ok (.invokevirtual 265, 3) := by decide +kernel
theorem dX10_saved_35 : decode cX10_saved 35 = .ok (.aload_n 0, 1) := by decide +kernel
theorem dX10_saved_36 : decode cX10_saved 36 = .ok (.getfield 80, 3) := by decide +kernel
theorem dX10_saved_39 : decode cX10_saved 39 = .ok (.iload_n 1, 1) := by decide +kernel
theorem dX10_saved_40 : decode cX10_saved 40 = .ok (.invokevirtual 401, 3) := by decide +kernel
theorem dX10_saved_43 : decode cX10_saved 43 = .ok (.iload_n 2, 1) := by decide +kernel
theorem dX10_saved_44 : decode cX10_saved 44 = .ok (.aload_n 0, 1) := by decide +kernel
theorem dX10_saved_45 : decode cX10_saved 45 = .ok (.getfield 27, 3) := by decide +kernel
theorem dX10_saved_48 : decode cX10_saved 48 = .ok (.iload_n 1, 1) := by decide +kernel
theorem dX10_saved_49 : decode cX10_saved 49 = .ok (.invokevirtual 404, 3) := by decide +kernel
theorem dX10_saved_52 : decode cX10_saved 52 = .ok (.imul, 1) := by decide +kernel
theorem dX10_saved_53 : decode cX10_saved 53 = .ok (.iadd, 1) := by decide +kernel
theorem dX10_saved_54 : decode cX10_saved 54 = .ok (.aload_n 0, 1) := by decide +kernel
theorem dX10_saved_55 : decode cX10_saved 55 = .ok (.getfield 80, 3) := by decide +kernel
theorem dX10_saved_58 : decode cX10_saved 58 = .ok (.getfield 407, 3) := by decide +kernel
theorem dX10_saved_61 : decode cX10_saved 61 = .ok (.iload_n 1, 1) := by decide +kernel
theorem dX10_saved_62 : decode cX10_saved 62 = .ok (.iaload, 1) := by decide +kernel
theorem dX10_saved_63 : decode cX10_saved 63 = .ok (.isub, 1) := by decide +kernel
theorem dX10_saved_64 : decode cX10_saved 64 = .ok (.ireturn, 1) := by decide +kernel
set_option maxRecDepth 20000 in
theorem ggX10_best_X6_has : GoodIn wsX10_best wsX6_has := goodIn_r _ [11, 12, 206, 207, 208, 209] (by decide +kernel) (by decide +kernel)
set_option maxRecDepth 20000 in
theorem gX10_best_X6_has : GoodIn wsX10_best (wsV RX10 139 RX6 yX6_has wsX6_has) := goodIn_app (goodIn_of _ (by decide +kernel)) ggX10_best_X6_has
theorem dX10_best_0 : decode cX10_best 0 = .ok (.aload_n 0, 1) := by decide +kernel
theorem dX10_best_1 : decode cX10_best 1 = .ok (.getfield 27, 3) := by decide +kernel
theorem dX10_best_4 : decode cX10_best 4 = .ok (.getfield 173, 3) := by decide +kernel
theorem dX10_best_7 : decode cX10_best 7 = .ok (.iload_n 1, 1) := by decide +kernel
theorem dX10_best_8 : decode cX10_best 8 = .ok (.invokevirtual 139, 3) := by decide +kernel
theorem dX10_best_11 : decode cX10_best 11 = .ok (.ifCond .ne 6, 3) := by decide +kernel
theorem dX10_best_14 : decode cX10_best 14 = .ok (.bipush (-2), 2) := by decide +kernel
theorem dX10_best_16 : decode cX10_best 16 = .ok (.ireturn, 1) := by decide +kernel
theorem dX10_best_17 : decode cX10_best 17 = .ok (.aload_n 0, 1) := by decide +kernel
theorem dX10_best_18 : decode cX10_best 18 = .ok (.iload_n 1, 1) := by decide +kernel
theorem dX10_best_19 : decode cX10_best 19 = .ok (.invokevirtual 286, 3) := by decide +kernel
theorem dX10_best_22 : decode cX10_best 22 = .ok (.aload_n 0, 1) := by decide +kernel
theorem dX10_best_23 : decode cX10_best 23 = .ok (.getfield 27, 3) := by decide +kernel
theorem dX10_best_26 : decode cX10_best 26 = .ok (.getfield 173, 3) := by decide +kernel
theorem dX10_best_29 : decode cX10_best 29 = .ok (.iload_n 1, 1) := by decide +kernel
theorem dX10_best_30 : decode cX10_best 30 = .ok (.iconst 3, 1) := by decide +kernel
theorem dX10_best_31 : decode cX10_best 31 = .ok (.invokevirtual 179, 3) := by decide +kernel
theorem dX10_best_34 : decode cX10_best 34 = .ok (.istore_n 2, 1) := by decide +kernel
theorem dX10_best_35 : decode cX10_best 35 = .ok (.iconst (-1), 1) := by decide +kernel
theorem dX10_best_36 : decode cX10_best 36 = .ok (.istore_n 3, 1) := by decide +kernel
theorem dX10_best_37 : decode cX10_best 37 = .ok (.iconst 0, 1) := by decide +kernel
theorem dX10_best_38 : decode cX10_best 38 = .ok (.istore 4, 2) := by decide +kernel
theorem dX10_best_40 : decode cX10_best 40 = .ok (.iconst (-1), 1) := by decide +kernel
theorem dX10_best_41 : decode cX10_best 41 = .ok (.istore 5, 2) := by decide +kernel
theorem dX10_best_43 : decode cX10_best 43 = .ok (.iconst 0, 1) := by decide +kernel
theorem dX10_best_44 : decode cX10_best 44 = .ok (.istore 6, 2) := by decide +kernel
theorem dX10_best_46 : decode cX10_best 46 = .ok (.iload 6, 2) := by decide +kernel
theorem dX10_best_48 : decode cX10_best 48 = .ok (.aload_n 0, 1) := by decide +kernel
theorem dX10_best_49 : decode cX10_best 49 = .ok (.getfield 27, 3) := by decide +kernel
theorem dX10_best_52 : decode cX10_best 52 = .ok (.getfield 128, 3) := by decide +kernel
theorem dX10_best_55 : decode cX10_best 55 = .ok (.if_icmp .gt 65, 3) := by decide +kernel
theorem dX10_best_58 : decode cX10_best 58 = .ok (.iload 6, 2) := by decide +kernel
theorem dX10_best_60 : decode cX10_best 60 = .ok (.iload 5, 2) := by decide +kernel
theorem dX10_best_62 : decode cX10_best 62 = .ok (.if_icmp .le 52, 3) := by decide +kernel
theorem dX10_best_65 : decode cX10_best 65 = .ok (.aload_n 0, 1) := by decide +kernel
theorem dX10_best_66 : decode cX10_best 66 = .ok (.iload_n 1, 1) := by decide +kernel
theorem dX10_best_67 : decode cX10_best 67 = .ok (.iload 6, 2) := by decide +kernel
theorem dX10_best_69 : decode cX10_best 69 = .ok (.invokevirtual 410, 3) := by decide +kernel
theorem dX10_best_72 : decode cX10_best 72 = .ok (.istore 5, 2) := by decide +kernel
theorem dX10_best_74 : decode cX10_best 74 = .ok (.aload_n 0, 1) := by decide +kernel
theorem dX10_best_75 : decode cX10_best 75 = .ok (.getfield 80, 3) := by decide +kernel
theorem dX10_best_78 : decode cX10_best 78 = .ok (.iload_n 1, 1) := by decide +kernel
theorem dX10_best_79 : decode cX10_best 79 = .ok (.invokevirtual 413, 3) := by decide +kernel
theorem dX10_best_82 : decode cX10_best 82 = .ok (.ifCond .eq 32, 3) := by decide +kernel
theorem dX10_best_85 : decode cX10_best 85 = .ok (.iload_n 3, 1) := by decide +kernel
theorem dX10_best_86 : decode cX10_best 86 = .ok (.iconst (-1), 1) := by decide +kernel
theorem dX10_best_87 : decode cX10_best 87 = .ok (.if_icmp .eq 15, 3) := by decide +kernel
theorem dX10_best_90 : decode cX10_best 90 = .ok (.aload_n 0, 1) := by decide +kernel
theorem dX10_best_91 : decode cX10_best 91 = .ok (.getfield 64, 3) := by decide +kernel
theorem dX10_best_94 : decode cX10_best 94 = .ok (.getfield 209, 3) := by decide +kernel
theorem dX10_best_97 : decode cX10_best 97 = .ok (.iload 4, 2) := by decide +kernel
theorem dX10_best_99 : decode cX10_best 99 = .ok (.if_icmp .ge 15, 3) := by decide +kernel
theorem dX10_best_102 : decode cX10_best 102 = .ok (.iload 6, 2) := by decide +kernel
theorem dX10_best_104 : decode cX10_best 104 = .ok (.istore_n 3, 1) := by decide +kernel
theorem dX10_best_105 : decode cX10_best 105 = .ok (.aload_n 0, 1) := by decide +kernel
theorem dX10_best_106 : decode cX10_best 106 = .ok (.getfield 64, 3) := by decide +kernel
theorem dX10_best_109 : decode cX10_best 109 = .ok (.getfield 209, 3) := by decide +kernel
theorem dX10_best_112 : decode cX10_best 112 = .ok (.istore 4, 2) := by decide +kernel
theorem dX10_best_114 : decode cX10_best 114 = .ok (.iinc 6 1, 3) := by decide +kernel
theorem dX10_best_117 : decode cX10_best 117 = .ok (.goto (-71), 3) := by decide +kernel
theorem dX10_best_120 : decode cX10_best 120 = .ok (.aload_n 0, 1) := by decide +kernel
theorem dX10_best_121 : decode cX10_best 121 = .ok (.getfield 27, 3) := by decide +kernel
theorem dX10_best_124 : decode cX10_best 124 = .ok (.getfield 173, 3) := by decide +kernel
theorem dX10_best_127 : decode cX10_best 127 = .ok (.iload_n 1, 1) := by decide +kernel
theorem dX10_best_128 : decode cX10_best 128 = .ok (.iconst 3, 1) := by decide +kernel
theorem dX10_best_129 : decode cX10_best 129 = .ok (.iload_n 2, 1) := by decide +kernel
theorem dX10_best_130 : decode cX10_best 130 = .ok (.invokevirtual 189, 3) := by decide +kernel
theorem dX10_best_133 : decode cX10_best 133 = .ok (.iload_n 3, 1) := by decide +kernel
theorem dX10_best_134 : decode cX10_best 134 = .ok (.ireturn, 1) := by decide +kernel
set_option maxRecDepth 20000 in
theorem ggX10_margin_X6_has : GoodIn wsX10_margin wsX6_has := goodIn_r _ [9, 10, 199, 200, 201, 202] (by decide +kernel) (by decide +kernel)
set_option maxRecDepth 20000 in
theorem gX10_margin_X6_has : GoodIn wsX10_margin (wsV RX10 139 RX6 yX6_has wsX6_has) := goodIn_app (goodIn_of _ (by decide +kernel)) ggX10_margin_X6_has
theorem dX10_margin_0 : decode cX10_margin 0 = .ok (.aload_n 0, 1) := by decide +kernel
theorem dX10_margin_1 : decode cX10_margin 1 = .ok (.getfield 27, 3) := by decide +kernel
theorem dX10_margin_4 : decode cX10_margin 4 = .ok (.getfield 173, 3) := by decide +kernel
theorem dX10_margin_7 : decode cX10_margin 7 = .ok (.iload_n 1, 1) := by decide +kernel
theorem dX10_margin_8 : decode cX10_margin 8 = .ok (.invokevirtual 139, 3) := by decide +kernel
theorem dX10_margin_11 : decode cX10_margin 11 = .ok (.ifCond .eq 12, 3) := by decide +kernel
theorem dX10_margin_14 : decode cX10_margin 14 = .ok (.iload_n 2, 1) := by decide +kernel
theorem dX10_margin_15 : decode cX10_margin 15 = .ok (.iconst 0, 1) := by decide +kernel
theorem dX10_margin_16 : decode cX10_margin 16 = .ok (.iconst 1, 1) := by decide +kernel
theorem dX10_margin_17 : decode cX10_margin 17 = .ok (.invokestatic 176, 3) := by decide +kernel
theorem dX10_margin_20 : decode cX10_margin 20 = .ok (.ifCond .ne 6, 3) := by decide +kernel
theorem dX10_margin_23 : decode cX10_margin 23 = .ok (.bipush (-2), 2) := by decide +kernel
theorem dX10_margin_25 : decode cX10_margin 25 = .ok (.ireturn, 1) := by decide +kernel
theorem dX10_margin_26 : decode cX10_margin 26 = .ok (.aload_n 0, 1) := by decide +kernel
theorem dX10_margin_27 : decode cX10_margin 27 = .ok (.iload_n 1, 1) := by decide +kernel
theorem dX10_margin_28 : decode cX10_margin 28 = .ok (.invokevirtual 286, 3) := by decide +kernel
theorem dX10_margin_31 : decode cX10_margin 31 = .ok (.aload_n 0, 1) := by decide +kernel
theorem dX10_margin_32 : decode cX10_margin 32 = .ok (.getfield 27, 3) := by decide +kernel
theorem dX10_margin_35 : decode cX10_margin 35 = .ok (.getfield 173, 3) := by decide +kernel
theorem dX10_margin_38 : decode cX10_margin 38 = .ok (.iload_n 1, 1) := by decide +kernel
theorem dX10_margin_39 : decode cX10_margin 39 = .ok (.iconst 3, 1) := by decide +kernel
theorem dX10_margin_40 : decode cX10_margin 40 = .ok (.invokevirtual 179, 3) := by decide +kernel
theorem dX10_margin_43 : decode cX10_margin 43 = .ok (.istore_n 3, 1) := by decide +kernel
theorem dX10_margin_44 : decode cX10_margin 44 = .ok (.iconst (-1), 1) := by decide +kernel
theorem dX10_margin_45 : decode cX10_margin 45 = .ok (.istore 4, 2) := by decide +kernel
theorem dX10_margin_47 : decode cX10_margin 47 = .ok (.iconst (-1), 1) := by decide +kernel
theorem dX10_margin_48 : decode cX10_margin 48 = .ok (.istore 5, 2) := by decide +kernel
theorem dX10_margin_50 : decode cX10_margin 50 = .ok (.iconst (-1), 1) := by decide +kernel
theorem dX10_margin_51 : decode cX10_margin 51 = .ok (.istore 6, 2) := by decide +kernel
theorem dX10_margin_53 : decode cX10_margin 53 = .ok (.iconst 0, 1) := by decide +kernel
theorem dX10_margin_54 : decode cX10_margin 54 = .ok (.istore 7, 2) := by decide +kernel
theorem dX10_margin_56 : decode cX10_margin 56 = .ok (.iconst 0, 1) := by decide +kernel
theorem dX10_margin_57 : decode cX10_margin 57 = .ok (.istore 8, 2) := by decide +kernel
theorem dX10_margin_59 : decode cX10_margin 59 = .ok (.iload 8, 2) := by decide +kernel
theorem dX10_margin_61 : decode cX10_margin 61 = .ok (.aload_n 0, 1) := by decide +kernel
theorem dX10_margin_62 : decode cX10_margin 62 = .ok (.getfield 27, 3) := by decide +kernel
theorem dX10_margin_65 : decode cX10_margin 65 = .ok (.getfield 128, 3) := by decide +kernel
theorem dX10_margin_68 : decode cX10_margin 68 = .ok (.if_icmp .gt 59, 3) := by decide +kernel
theorem dX10_margin_71 : decode cX10_margin 71 = .ok (.iload 8, 2) := by decide +kernel
theorem dX10_margin_73 : decode cX10_margin 73 = .ok (.iload 6, 2) := by decide +kernel
theorem dX10_margin_75 : decode cX10_margin 75 = .ok (.if_icmp .le 22, 3) := by decide +kernel
theorem dX10_margin_78 : decode cX10_margin 78 = .ok (.aload_n 0, 1) := by decide +kernel
theorem dX10_margin_79 : decode cX10_margin 79 = .ok (.iload_n 1, 1) := by decide +kernel

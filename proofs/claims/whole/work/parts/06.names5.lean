theorem dX9_may_71 : decode cX9_may 71 = .ok (.iconst 0, 1) := by decide +kernel
theorem dX9_may_72 : decode cX9_may 72 = .ok (.ireturn, 1) := by decide +kernel
theorem dX9_makes_0 : decode cX9_makes 0 = .ok (.iconst 4, 1) := by decide +kernel
theorem dX9_makes_1 : decode cX9_makes 1 = .ok (.iload_n 2, 1) := by decide +kernel
theorem dX9_makes_2 : decode cX9_makes 2 = .ok (.imul, 1) := by decide +kernel
theorem dX9_makes_3 : decode cX9_makes 3 = .ok (.iload_n 3, 1) := by decide +kernel
theorem dX9_makes_4 : decode cX9_makes 4 = .ok (.iadd, 1) := by decide +kernel
theorem dX9_makes_5 : decode cX9_makes 5 = .ok (.istore 4, 2) := by decide +kernel
theorem dX9_makes_7 : decode cX9_makes 7 = .ok (.iconst 0, 1) := by decide +kernel
theorem dX9_makes_8 : decode cX9_makes 8 = .ok (.istore 5, 2) := by decide +kernel
theorem dX9_makes_10 : decode cX9_makes 10 = .ok (.aload_n 0, 1) := by decide +kernel
theorem dX9_makes_11 : decode cX9_makes 11 = .ok (.iconst 0, 1) := by decide +kernel
theorem dX9_makes_12 : decode cX9_makes 12 = .ok (.putfield 127, 3) := by decide +kernel
theorem dX9_makes_15 : decode cX9_makes 15 = .ok (.iconst 0, 1) := by decide +kernel
theorem dX9_makes_16 : decode cX9_makes 16 = .ok (.istore 6, 2) := by decide +kernel
theorem dX9_makes_18 : decode cX9_makes 18 = .ok (.iload 6, 2) := by decide +kernel
theorem dX9_makes_20 : decode cX9_makes 20 = .ok (.aload_n 0, 1) := by decide +kernel
theorem dX9_makes_21 : decode cX9_makes 21 = .ok (.getfield 35, 3) := by decide +kernel
theorem dX9_makes_24 : decode cX9_makes 24 = .ok (.iload 4, 2) := by decide +kernel
theorem dX9_makes_26 : decode cX9_makes 26 = .ok (.iaload, 1) := by decide +kernel
theorem dX9_makes_27 : decode cX9_makes 27 = .ok (.if_icmp .ge 119, 3) := by decide +kernel
theorem dX9_makes_30 : decode cX9_makes 30 = .ok (.aload_n 0, 1) := by decide +kernel
theorem dX9_makes_31 : decode cX9_makes 31 = .ok (.getfield 41, 3) := by decide +kernel
theorem dX9_makes_34 : decode cX9_makes 34 = .ok (.bipush 40, 2) := by decide +kernel
theorem dX9_makes_36 : decode cX9_makes 36 = .ok (.iload 4, 2) := by decide +kernel
theorem dX9_makes_38 : decode cX9_makes 38 = .ok (.imul, 1) := by decide +kernel
theorem dX9_makes_39 : decode cX9_makes 39 = .ok (.iload 6, 2) := by decide +kernel
theorem dX9_makes_41 : decode cX9_makes 41 = .ok (.iadd, 1) := by decide +kernel
theorem dX9_makes_42 : decode cX9_makes 42 = .ok (.baload, 1) := by decide +kernel
theorem dX9_makes_43 : decode cX9_makes 43 = .ok (.ifCond .eq 8, 3) := by decide +kernel
theorem dX9_makes_46 : decode cX9_makes 46 = .ok (.bipush 35, 2) := by decide +kernel
theorem dX9_makes_48 : decode cX9_makes 48 = .ok (.goto 16, 3) := by decide +kernel
theorem dX9_makes_51 : decode cX9_makes 51 = .ok (.aload_n 0, 1) := by decide +kernel
theorem dX9_makes_52 : decode cX9_makes 52 = .ok (.getfield 38, 3) := by decide +kernel
theorem dX9_makes_55 : decode cX9_makes 55 = .ok (.bipush 40, 2) := by decide +kernel
theorem dX9_makes_57 : decode cX9_makes 57 = .ok (.iload 4, 2) := by decide +kernel
theorem dX9_makes_59 : decode cX9_makes 59 = .ok (.imul, 1) := by decide +kernel
theorem dX9_makes_60 : decode cX9_makes 60 = .ok (.iload 6, 2) := by decide +kernel
theorem dX9_makes_62 : decode cX9_makes 62 = .ok (.iadd, 1) := by decide +kernel
theorem dX9_makes_63 : decode cX9_makes 63 = .ok (.iaload, 1) := by decide +kernel
theorem dX9_makes_64 : decode cX9_makes 64 = .ok (.istore 7, 2) := by decide +kernel
theorem dX9_makes_66 : decode cX9_makes 66 = .ok (.aload_n 0, 1) := by decide +kernel
theorem dX9_makes_67 : decode cX9_makes 67 = .ok (.getfield 83, 3) := by decide +kernel
theorem dX9_makes_70 : decode cX9_makes 70 = .ok (.aload_n 0, 1) := by decide +kernel
theorem dX9_makes_71 : decode cX9_makes 71 = .ok (.getfield 127, 3) := by decide +kernel
theorem dX9_makes_74 : decode cX9_makes 74 = .ok (.iload 7, 2) := by decide +kernel
theorem dX9_makes_76 : decode cX9_makes 76 = .ok (.iastore, 1) := by decide +kernel
theorem dX9_makes_77 : decode cX9_makes 77 = .ok (.aload_n 0, 1) := by decide +kernel
theorem dX9_makes_78 : decode cX9_makes 78 = .ok (.dup, 1) := by decide +kernel
theorem dX9_makes_79 : decode cX9_makes 79 = .ok (.getfield 127, 3) := by decide +kernel
theorem dX9_makes_82 : decode cX9_makes 82 = .ok (.iconst 1, 1) := by decide +kernel
theorem dX9_makes_83 : decode cX9_makes 83 = .ok (.iadd, 1) := by decide +kernel
theorem dX9_makes_84 : decode cX9_makes 84 = .ok (.putfield 127, 3) := by decide +kernel
theorem dX9_makes_87 : decode cX9_makes 87 = .ok (.aload_n 0, 1) := by decide +kernel
theorem dX9_makes_88 : decode cX9_makes 88 = .ok (.getfield 19, 3) := by decide +kernel
theorem dX9_makes_91 : decode cX9_makes 91 = .ok (.iload_n 2, 1) := by decide +kernel
theorem dX9_makes_92 : decode cX9_makes 92 = .ok (.iaload, 1) := by decide +kernel
theorem dX9_makes_93 : decode cX9_makes 93 = .ok (.iconst 2, 1) := by decide +kernel
theorem dX9_makes_94 : decode cX9_makes 94 = .ok (.if_icmp .ne 46, 3) := by decide +kernel
theorem dX9_makes_97 : decode cX9_makes 97 = .ok (.iload 7, 2) := by decide +kernel
theorem dX9_makes_99 : decode cX9_makes 99 = .ok (.bipush 32, 2) := by decide +kernel
theorem dX9_makes_101 : decode cX9_makes 101 = .ok (.if_icmp .ne 39, 3) := by decide +kernel
theorem dX9_makes_104 : decode cX9_makes 104 = .ok (.iload_n 1, 1) := by decide +kernel
theorem dX9_makes_105 : decode cX9_makes 105 = .ok (.iload 5, 2) := by decide +kernel
theorem dX9_makes_107 : decode cX9_makes 107 = .ok (.iconst 3, 1) := by decide +kernel
theorem dX9_makes_108 : decode cX9_makes 108 = .ok (.irem, 1) := by decide +kernel
theorem dX9_makes_109 : decode cX9_makes 109 = .ok (.ishr, 1) := by decide +kernel
theorem dX9_makes_110 : decode cX9_makes 110 = .ok (.iconst 1, 1) := by decide +kernel
theorem dX9_makes_111 : decode cX9_makes 111 = .ok (.iand, 1) := by decide +kernel
theorem dX9_makes_112 : decode cX9_makes 112 = .ok (.iconst 1, 1) := by decide +kernel
theorem dX9_makes_113 : decode cX9_makes 113 = .ok (.if_icmp .ne 24, 3) := by decide +kernel
theorem dX9_makes_116 : decode cX9_makes 116 = .ok (.aload_n 0, 1) := by decide +kernel
theorem dX9_makes_117 : decode cX9_makes 117 = .ok (.getfield 83, 3) := by decide +kernel
theorem dX9_makes_120 : decode cX9_makes 120 = .ok (.aload_n 0, 1) := by decide +kernel
theorem dX9_makes_121 : decode cX9_makes 121 = .ok (.getfield 127, 3) := by decide +kernel
theorem dX9_makes_124 : decode cX9_makes 124 = .ok (.bipush 32, 2) := by decide +kernel
theorem dX9_makes_126 : decode cX9_makes 126 = .ok (.iastore, 1) := by decide +kernel
theorem dX9_makes_127 : decode cX9_makes 127 = .ok (.aload_n 0, 1) := by decide +kernel
theorem dX9_makes_128 : decode cX9_makes 128 = .ok (.dup, 1) := by decide +kernel
theorem dX9_makes_129 : decode cX9_makes 129 = .ok (.getfield 127, 3) := by decide +kernel
theorem dX9_makes_132 : decode cX9_makes 132 = .ok (.iconst 1, 1) := by decide +kernel
theorem dX9_makes_133 : decode cX9_makes 133 = .ok (.iadd, 1) := by decide +kernel
theorem dX9_makes_134 : decode cX9_makes 134 = .ok (.putfield 127, 3) := by decide +kernel
theorem dX9_makes_137 : decode cX9_makes 137 = .ok (.iinc 5 1, 3) := by decide +kernel
theorem dX9_makes_140 : decode cX9_makes 140 = .ok (.iinc 6 1, 3) := by decide +kernel
theorem dX9_makes_143 : decode cX9_makes 143 = .ok (.goto (-125), 3) := by decide +kernel
theorem dX9_makes_146 : decode cX9_makes 146 = .ok (.return_, 1) := by decide +kernel
set_option maxRecDepth 20000 in
theorem ggX9_read_X9_isBidder : GoodIn wsX9_read wsX9_isBidder := goodIn_r _ [15, 16, 17, 14, 18] (by decide +kernel) (by decide +kernel)
set_option maxRecDepth 20000 in
theorem gX9_read_X9_isBidder : GoodIn wsX9_read (va_wsS RX9 113 yX9_isBidder wsX9_isBidder) := goodIn_app (goodIn_of _ (by decide +kernel)) ggX9_read_X9_isBidder
set_option maxRecDepth 20000 in
theorem ggX9_read_X9_isVersion : GoodIn wsX9_read wsX9_isVersion := goodIn_r _ [22, 23, 24, 25, 26, 14, 27, 28, 16, 17, 18, 46, 47, 48, 49, 50, 51, 52, 53, 54, 55, 56, 57, 58, 59, 60, 61, 62, 63, 64, 65, 66, 67, 68, 69, 70, 71, 72, 73, 74, 75, 76, 77, 78] (by decide +kernel) (by decide +kernel)
set_option maxRecDepth 20000 in
theorem gX9_read_X9_isVersion : GoodIn wsX9_read (wsV RX9 108 RX9 yX9_isVersion wsX9_isVersion) := goodIn_app (goodIn_of _ (by decide +kernel)) ggX9_read_X9_isVersion
set_option maxRecDepth 20000 in
theorem ggX9_read_X9_sees : GoodIn wsX9_read wsX9_sees := goodIn_r _ [32, 33, 34, 8, 35, 36, 37, 38, 46, 47, 48, 49, 50, 51, 52, 53, 54, 55, 56, 57, 58, 59, 60, 61, 62, 63, 64, 65, 66, 67, 68, 69, 70, 71, 72, 73, 74, 75, 76, 77, 78] (by decide +kernel) (by decide +kernel)
set_option maxRecDepth 20000 in
theorem gX9_read_X9_sees : GoodIn wsX9_read (wsV RX9 124 RX9 yX9_sees wsX9_sees) := goodIn_app (goodIn_of _ (by decide +kernel)) ggX9_read_X9_sees
set_option maxRecDepth 20000 in
theorem ggX9_read_X9_makes : GoodIn wsX9_read wsX9_makes := goodIn_r _ [42, 2, 43, 44, 45, 4, 37, 46, 47, 48, 49, 50, 51, 52, 53, 54, 55, 56, 57, 58, 59, 60, 61, 62, 63, 64, 65, 66, 67, 68, 69, 70, 71, 72, 73, 74, 75, 76, 77, 78] (by decide +kernel) (by decide +kernel)
set_option maxRecDepth 20000 in
theorem gX9_read_X9_makes : GoodIn wsX9_read (wsV RX9 130 RX9 yX9_makes wsX9_makes) := goodIn_app (goodIn_of _ (by decide +kernel)) ggX9_read_X9_makes
theorem dX9_read_0 : decode cX9_read 0 = .ok (.iload_n 1, 1) := by decide +kernel
theorem dX9_read_1 : decode cX9_read 1 = .ok (.invokestatic 113, 3) := by decide +kernel
theorem dX9_read_4 : decode cX9_read 4 = .ok (.ifCond .eq 12, 3) := by decide +kernel
theorem dX9_read_7 : decode cX9_read 7 = .ok (.aload_n 0, 1) := by decide +kernel
theorem dX9_read_8 : decode cX9_read 8 = .ok (.iload_n 2, 1) := by decide +kernel
theorem dX9_read_9 : decode cX9_read 9 = .ok (.iload_n 3, 1) := by decide +kernel
theorem dX9_read_10 : decode cX9_read 10 = .ok (.invokevirtual 108, 3) := by decide +kernel
theorem dX9_read_13 : decode cX9_read 13 = .ok (.ifCond .ne 5, 3) := by decide +kernel
theorem dX9_read_16 : decode cX9_read 16 = .ok (.iconst (-1), 1) := by decide +kernel
theorem dX9_read_17 : decode cX9_read 17 = .ok (.ireturn, 1) := by decide +kernel
theorem dX9_read_18 : decode cX9_read 18 = .ok (.aload_n 0, 1) := by decide +kernel
theorem dX9_read_19 : decode cX9_read 19 = .ok (.iload_n 1, 1) := by decide +kernel
theorem dX9_read_20 : decode cX9_read 20 = .ok (.iload_n 2, 1) := by decide +kernel
theorem dX9_read_21 : decode cX9_read 21 = .ok (.invokevirtual 124, 3) := by decide +kernel
theorem dX9_read_24 : decode cX9_read 24 = .ok (.ifCond .ne 6, 3) := by decide +kernel
theorem dX9_read_27 : decode cX9_read 27 = .ok (.bipush (-4), 2) := by decide +kernel
theorem dX9_read_29 : decode cX9_read 29 = .ok (.ireturn, 1) := by decide +kernel
theorem dX9_read_30 : decode cX9_read 30 = .ok (.aload_n 0, 1) := by decide +kernel
theorem dX9_read_31 : decode cX9_read 31 = .ok (.iload_n 1, 1) := by decide +kernel
theorem dX9_read_32 : decode cX9_read 32 = .ok (.iload_n 2, 1) := by decide +kernel
theorem dX9_read_33 : decode cX9_read 33 = .ok (.iload_n 3, 1) := by decide +kernel
theorem dX9_read_34 : decode cX9_read 34 = .ok (.invokevirtual 130, 3) := by decide +kernel
theorem dX9_read_37 : decode cX9_read 37 = .ok (.aload_n 0, 1) := by decide +kernel
theorem dX9_read_38 : decode cX9_read 38 = .ok (.getfield 44, 3) := by decide +kernel
theorem dX9_read_41 : decode cX9_read 41 = .ok (.iload_n 1, 1) := by decide +kernel
theorem dX9_read_42 : decode cX9_read 42 = .ok (.aload_n 0, 1) := by decide +kernel
theorem dX9_read_43 : decode cX9_read 43 = .ok (.getfield 127, 3) := by decide +kernel
theorem dX9_read_46 : decode cX9_read 46 = .ok (.iastore, 1) := by decide +kernel
theorem dX9_read_47 : decode cX9_read 47 = .ok (.iconst 0, 1) := by decide +kernel
theorem dX9_read_48 : decode cX9_read 48 = .ok (.istore 4, 2) := by decide +kernel
theorem dX9_read_50 : decode cX9_read 50 = .ok (.iload 4, 2) := by decide +kernel
theorem dX9_read_52 : decode cX9_read 52 = .ok (.aload_n 0, 1) := by decide +kernel
theorem dX9_read_53 : decode cX9_read 53 = .ok (.getfield 127, 3) := by decide +kernel
theorem dX9_read_56 : decode cX9_read 56 = .ok (.if_icmp .ge 28, 3) := by decide +kernel
theorem dX9_read_59 : decode cX9_read 59 = .ok (.aload_n 0, 1) := by decide +kernel
theorem dX9_read_60 : decode cX9_read 60 = .ok (.getfield 47, 3) := by decide +kernel
theorem dX9_read_63 : decode cX9_read 63 = .ok (.bipush 80, 2) := by decide +kernel
theorem dX9_read_65 : decode cX9_read 65 = .ok (.iload_n 1, 1) := by decide +kernel
theorem dX9_read_66 : decode cX9_read 66 = .ok (.imul, 1) := by decide +kernel
theorem dX9_read_67 : decode cX9_read 67 = .ok (.iload 4, 2) := by decide +kernel
theorem dX9_read_69 : decode cX9_read 69 = .ok (.iadd, 1) := by decide +kernel
theorem dX9_read_70 : decode cX9_read 70 = .ok (.aload_n 0, 1) := by decide +kernel
theorem dX9_read_71 : decode cX9_read 71 = .ok (.getfield 83, 3) := by decide +kernel
theorem dX9_read_74 : decode cX9_read 74 = .ok (.iload 4, 2) := by decide +kernel
theorem dX9_read_76 : decode cX9_read 76 = .ok (.iaload, 1) := by decide +kernel
theorem dX9_read_77 : decode cX9_read 77 = .ok (.iastore, 1) := by decide +kernel
theorem dX9_read_78 : decode cX9_read 78 = .ok (.iinc 4 1, 3) := by decide +kernel
theorem dX9_read_81 : decode cX9_read 81 = .ok (.goto (-31), 3) := by decide +kernel
theorem dX9_read_84 : decode cX9_read 84 = .ok (.aload_n 0, 1) := by decide +kernel
theorem dX9_read_85 : decode cX9_read 85 = .ok (.getfield 134, 3) := by decide +kernel
theorem dX9_read_88 : decode cX9_read 88 = .ok (.sipush 200, 3) := by decide +kernel
theorem dX9_read_91 : decode cX9_read 91 = .ok (.if_icmp .ne 16, 3) := by decide +kernel
theorem dX9_read_94 : decode cX9_read 94 = .ok (.aload_n 0, 1) := by decide +kernel
theorem dX9_read_95 : decode cX9_read 95 = .ok (.dup, 1) := by decide +kernel
theorem dX9_read_96 : decode cX9_read 96 = .ok (.getfield 137, 3) := by decide +kernel
theorem dX9_read_99 : decode cX9_read 99 = .ok (.iconst 1, 1) := by decide +kernel
theorem dX9_read_100 : decode cX9_read 100 = .ok (.iadd, 1) := by decide +kernel
theorem dX9_read_101 : decode cX9_read 101 = .ok (.putfield 137, 3) := by decide +kernel
theorem dX9_read_104 : decode cX9_read 104 = .ok (.goto 56, 3) := by decide +kernel
theorem dX9_read_107 : decode cX9_read 107 = .ok (.aload_n 0, 1) := by decide +kernel
theorem dX9_read_108 : decode cX9_read 108 = .ok (.getfield 50, 3) := by decide +kernel
theorem dX9_read_111 : decode cX9_read 111 = .ok (.aload_n 0, 1) := by decide +kernel
theorem dX9_read_112 : decode cX9_read 112 = .ok (.getfield 134, 3) := by decide +kernel
theorem dX9_read_115 : decode cX9_read 115 = .ok (.aload_n 0, 1) := by decide +kernel
theorem dX9_read_116 : decode cX9_read 116 = .ok (.getfield 86, 3) := by decide +kernel
theorem dX9_read_119 : decode cX9_read 119 = .ok (.iastore, 1) := by decide +kernel
theorem dX9_read_120 : decode cX9_read 120 = .ok (.aload_n 0, 1) := by decide +kernel
theorem dX9_read_121 : decode cX9_read 121 = .ok (.getfield 53, 3) := by decide +kernel
theorem dX9_read_124 : decode cX9_read 124 = .ok (.aload_n 0, 1) := by decide +kernel
theorem dX9_read_125 : decode cX9_read 125 = .ok (.getfield 134, 3) := by decide +kernel
theorem dX9_read_128 : decode cX9_read 128 = .ok (.iload_n 1, 1) := by decide +kernel
theorem dX9_read_129 : decode cX9_read 129 = .ok (.iastore, 1) := by decide +kernel
theorem dX9_read_130 : decode cX9_read 130 = .ok (.aload_n 0, 1) := by decide +kernel
theorem dX9_read_131 : decode cX9_read 131 = .ok (.getfield 56, 3) := by decide +kernel
theorem dX9_read_134 : decode cX9_read 134 = .ok (.aload_n 0, 1) := by decide +kernel
theorem dX9_read_135 : decode cX9_read 135 = .ok (.getfield 134, 3) := by decide +kernel
theorem dX9_read_138 : decode cX9_read 138 = .ok (.iload_n 2, 1) := by decide +kernel
theorem dX9_read_139 : decode cX9_read 139 = .ok (.iastore, 1) := by decide +kernel
theorem dX9_read_140 : decode cX9_read 140 = .ok (.aload_n 0, 1) := by decide +kernel
theorem dX9_read_141 : decode cX9_read 141 = .ok (.getfield 59, 3) := by decide +kernel
theorem dX9_read_144 : decode cX9_read 144 = .ok (.aload_n 0, 1) := by decide +kernel
theorem dX9_read_145 : decode cX9_read 145 = .ok (.getfield 134, 3) := by decide +kernel
theorem dX9_read_148 : decode cX9_read 148 = .ok (.iload_n 3, 1) := by decide +kernel
theorem dX9_read_149 : decode cX9_read 149 = .ok (.iastore, 1) := by decide +kernel
theorem dX9_read_150 : decode cX9_read 150 = .ok (.aload_n 0, 1) := by decide +kernel
theorem dX9_read_151 : decode cX9_read 151 = .ok (.dup, 1) := by decide +kernel
theorem dX9_read_152 : decode cX9_read 152 = .ok (.getfield 134, 3) := by decide +kernel
theorem dX9_read_155 : decode cX9_read 155 = .ok (.iconst 1, 1) := by decide +kernel
theorem dX9_read_156 : decode cX9_read 156 = .ok (.iadd, 1) := by decide +kernel
theorem dX9_read_157 : decode cX9_read 157 = .ok (.putfield 134, 3) := by decide +kernel
theorem dX9_read_160 : decode cX9_read 160 = .ok (.aload_n 0, 1) := by decide +kernel
theorem dX9_read_161 : decode cX9_read 161 = .ok (.getfield 127, 3) := by decide +kernel
theorem dX9_read_164 : decode cX9_read 164 = .ok (.ireturn, 1) := by decide +kernel
set_option maxRecDepth 20000 in
theorem ggX9_at_X9_isBidder : GoodIn wsX9_at wsX9_isBidder := goodIn_r _ [6, 7, 8, 5, 9] (by decide +kernel) (by decide +kernel)
set_option maxRecDepth 20000 in
theorem gX9_at_X9_isBidder : GoodIn wsX9_at (va_wsS RX9 113 yX9_isBidder wsX9_isBidder) := goodIn_app (goodIn_of _ (by decide +kernel)) ggX9_at_X9_isBidder
set_option maxRecDepth 20000 in
theorem ggX9_at_X9_in : GoodIn wsX9_at wsX9_in := goodIn_r _ [9] (by decide +kernel) (by decide +kernel)
set_option maxRecDepth 20000 in
theorem gX9_at_X9_in : GoodIn wsX9_at (va_wsS RX9 93 yX9_in wsX9_in) := goodIn_app (goodIn_of _ (by decide +kernel)) ggX9_at_X9_in
theorem dX9_at_0 : decode cX9_at 0 = .ok (.iload_n 1, 1) := by decide +kernel
theorem dX9_at_1 : decode cX9_at 1 = .ok (.invokestatic 113, 3) := by decide +kernel
theorem dX9_at_4 : decode cX9_at 4 = .ok (.ifCond .ne 7, 3) := by decide +kernel
theorem dX9_at_7 : decode cX9_at 7 = .ok (.iconst (-1), 1) := by decide +kernel
theorem dX9_at_8 : decode cX9_at 8 = .ok (.goto 35, 3) := by decide +kernel
theorem dX9_at_11 : decode cX9_at 11 = .ok (.iload_n 2, 1) := by decide +kernel
theorem dX9_at_12 : decode cX9_at 12 = .ok (.iconst 0, 1) := by decide +kernel
theorem dX9_at_13 : decode cX9_at 13 = .ok (.aload_n 0, 1) := by decide +kernel
theorem dX9_at_14 : decode cX9_at 14 = .ok (.getfield 44, 3) := by decide +kernel
theorem dX9_at_17 : decode cX9_at 17 = .ok (.iload_n 1, 1) := by decide +kernel
theorem dX9_at_18 : decode cX9_at 18 = .ok (.iaload, 1) := by decide +kernel
theorem dX9_at_19 : decode cX9_at 19 = .ok (.iconst 1, 1) := by decide +kernel
theorem dX9_at_20 : decode cX9_at 20 = .ok (.isub, 1) := by decide +kernel
theorem dX9_at_21 : decode cX9_at 21 = .ok (.invokestatic 93, 3) := by decide +kernel
theorem dX9_at_24 : decode cX9_at 24 = .ok (.ifCond .eq 17, 3) := by decide +kernel
theorem dX9_at_27 : decode cX9_at 27 = .ok (.aload_n 0, 1) := by decide +kernel
theorem dX9_at_28 : decode cX9_at 28 = .ok (.getfield 47, 3) := by decide +kernel
theorem dX9_at_31 : decode cX9_at 31 = .ok (.bipush 80, 2) := by decide +kernel
theorem dX9_at_33 : decode cX9_at 33 = .ok (.iload_n 1, 1) := by decide +kernel
theorem dX9_at_34 : decode cX9_at 34 = .ok (.imul, 1) := by decide +kernel
theorem dX9_at_35 : decode cX9_at 35 = .ok (.iload_n 2, 1) := by decide +kernel
theorem dX9_at_36 : decode cX9_at 36 = .ok (.iadd, 1) := by decide +kernel
theorem dX9_at_37 : decode cX9_at 37 = .ok (.iaload, 1) := by decide +kernel
theorem dX9_at_38 : decode cX9_at 38 = .ok (.goto 5, 3) := by decide +kernel
theorem dX9_at_41 : decode cX9_at 41 = .ok (.bipush (-9), 2) := by decide +kernel
theorem dX9_at_43 : decode cX9_at 43 = .ok (.ireturn, 1) := by decide +kernel
theorem dX9_stands_0 : decode cX9_stands 0 = .ok (.iload_n 2, 1) := by decide +kernel
theorem dX9_stands_1 : decode cX9_stands 1 = .ok (.aload_n 0, 1) := by decide +kernel
theorem dX9_stands_2 : decode cX9_stands 2 = .ok (.getfield 101, 3) := by decide +kernel
theorem dX9_stands_5 : decode cX9_stands 5 = .ok (.iadd, 1) := by decide +kernel
theorem dX9_stands_6 : decode cX9_stands 6 = .ok (.aload_n 0, 1) := by decide +kernel
theorem dX9_stands_7 : decode cX9_stands 7 = .ok (.getfield 35, 3) := by decide +kernel
theorem dX9_stands_10 : decode cX9_stands 10 = .ok (.iload_n 1, 1) := by decide +kernel
theorem dX9_stands_11 : decode cX9_stands 11 = .ok (.iaload, 1) := by decide +kernel
theorem dX9_stands_12 : decode cX9_stands 12 = .ok (.if_icmp .gt 7, 3) := by decide +kernel
theorem dX9_stands_15 : decode cX9_stands 15 = .ok (.iconst 1, 1) := by decide +kernel
theorem dX9_stands_16 : decode cX9_stands 16 = .ok (.goto 4, 3) := by decide +kernel
theorem dX9_stands_19 : decode cX9_stands 19 = .ok (.iconst 0, 1) := by decide +kernel
theorem dX9_stands_20 : decode cX9_stands 20 = .ok (.istore_n 3, 1) := by decide +kernel
theorem dX9_stands_21 : decode cX9_stands 21 = .ok (.iconst 0, 1) := by decide +kernel
theorem dX9_stands_22 : decode cX9_stands 22 = .ok (.istore 4, 2) := by decide +kernel
theorem dX9_stands_24 : decode cX9_stands 24 = .ok (.iload 4, 2) := by decide +kernel
theorem dX9_stands_26 : decode cX9_stands 26 = .ok (.aload_n 0, 1) := by decide +kernel
theorem dX9_stands_27 : decode cX9_stands 27 = .ok (.getfield 101, 3) := by decide +kernel
theorem dX9_stands_30 : decode cX9_stands 30 = .ok (.if_icmp .ge 60, 3) := by decide +kernel
theorem dX9_stands_33 : decode cX9_stands 33 = .ok (.iload_n 3, 1) := by decide +kernel
theorem dX9_stands_34 : decode cX9_stands 34 = .ok (.ifCond .eq 56, 3) := by decide +kernel
theorem dX9_stands_37 : decode cX9_stands 37 = .ok (.aload_n 0, 1) := by decide +kernel
theorem dX9_stands_38 : decode cX9_stands 38 = .ok (.getfield 41, 3) := by decide +kernel
theorem dX9_stands_41 : decode cX9_stands 41 = .ok (.bipush 40, 2) := by decide +kernel
theorem dX9_stands_43 : decode cX9_stands 43 = .ok (.iload_n 1, 1) := by decide +kernel
theorem dX9_stands_44 : decode cX9_stands 44 = .ok (.imul, 1) := by decide +kernel
theorem dX9_stands_45 : decode cX9_stands 45 = .ok (.iload_n 2, 1) := by decide +kernel
theorem dX9_stands_46 : decode cX9_stands 46 = .ok (.iadd, 1) := by decide +kernel
theorem dX9_stands_47 : decode cX9_stands 47 = .ok (.iload 4, 2) := by decide +kernel
theorem dX9_stands_49 : decode cX9_stands 49 = .ok (.iadd, 1) := by decide +kernel
theorem dX9_stands_50 : decode cX9_stands 50 = .ok (.baload, 1) := by decide +kernel
theorem dX9_stands_51 : decode cX9_stands 51 = .ok (.ifCond .ne 31, 3) := by decide +kernel
theorem dX9_stands_54 : decode cX9_stands 54 = .ok (.aload_n 0, 1) := by decide +kernel
theorem dX9_stands_55 : decode cX9_stands 55 = .ok (.getfield 38, 3) := by decide +kernel
theorem dX9_stands_58 : decode cX9_stands 58 = .ok (.bipush 40, 2) := by decide +kernel
theorem dX9_stands_60 : decode cX9_stands 60 = .ok (.iload_n 1, 1) := by decide +kernel
theorem dX9_stands_61 : decode cX9_stands 61 = .ok (.imul, 1) := by decide +kernel
theorem dX9_stands_62 : decode cX9_stands 62 = .ok (.iload_n 2, 1) := by decide +kernel
theorem dX9_stands_63 : decode cX9_stands 63 = .ok (.iadd, 1) := by decide +kernel
theorem dX9_stands_64 : decode cX9_stands 64 = .ok (.iload 4, 2) := by decide +kernel
theorem dX9_stands_66 : decode cX9_stands 66 = .ok (.iadd, 1) := by decide +kernel
theorem dX9_stands_67 : decode cX9_stands 67 = .ok (.iaload, 1) := by decide +kernel
theorem dX9_stands_68 : decode cX9_stands 68 = .ok (.aload_n 0, 1) := by decide +kernel
theorem dX9_stands_69 : decode cX9_stands 69 = .ok (.getfield 7, 3) := by decide +kernel
theorem dX9_stands_72 : decode cX9_stands 72 = .ok (.iload 4, 2) := by decide +kernel
theorem dX9_stands_74 : decode cX9_stands 74 = .ok (.iaload, 1) := by decide +kernel
theorem dX9_stands_75 : decode cX9_stands 75 = .ok (.if_icmp .ne 7, 3) := by decide +kernel
theorem dX9_stands_78 : decode cX9_stands 78 = .ok (.iconst 1, 1) := by decide +kernel
theorem dX9_stands_79 : decode cX9_stands 79 = .ok (.goto 4, 3) := by decide +kernel
theorem dX9_stands_82 : decode cX9_stands 82 = .ok (.iconst 0, 1) := by decide +kernel
theorem dX9_stands_83 : decode cX9_stands 83 = .ok (.istore_n 3, 1) := by decide +kernel
theorem dX9_stands_84 : decode cX9_stands 84 = .ok (.iinc 4 1, 3) := by decide +kernel
theorem dX9_stands_87 : decode cX9_stands 87 = .ok (.goto (-63), 3) := by decide +kernel
theorem dX9_stands_90 : decode cX9_stands 90 = .ok (.iload_n 3, 1) := by decide +kernel
theorem dX9_stands_91 : decode cX9_stands 91 = .ok (.ireturn, 1) := by decide +kernel
set_option maxRecDepth 20000 in
theorem ggX9_search_X9_isBidder : GoodIn wsX9_search wsX9_isBidder := goodIn_r _ [8, 9, 10, 7, 11] (by decide +kernel) (by decide +kernel)
set_option maxRecDepth 20000 in
theorem gX9_search_X9_isBidder : GoodIn wsX9_search (va_wsS RX9 113 yX9_isBidder wsX9_isBidder) := goodIn_app (goodIn_of _ (by decide +kernel)) ggX9_search_X9_isBidder
set_option maxRecDepth 20000 in
theorem ggX9_search_X9_in : GoodIn wsX9_search wsX9_in := goodIn_r _ [11] (by decide +kernel) (by decide +kernel)
set_option maxRecDepth 20000 in
theorem gX9_search_X9_in : GoodIn wsX9_search (va_wsS RX9 93 yX9_in wsX9_in) := goodIn_app (goodIn_of _ (by decide +kernel)) ggX9_search_X9_in
set_option maxRecDepth 20000 in
theorem ggX9_search_X9_stands : GoodIn wsX9_search wsX9_stands := goodIn_r _ [15, 1, 4, 16, 17, 18, 30, 31, 32, 33, 34, 35, 36, 37, 38, 39, 40, 41, 42, 43, 44, 45, 46, 47, 48, 49, 50, 51, 52, 53, 54, 55, 56, 57, 58, 59, 60, 61, 62] (by decide +kernel) (by decide +kernel)
set_option maxRecDepth 20000 in
theorem gX9_search_X9_stands : GoodIn wsX9_search (wsV RX9 140 RX9 yX9_stands wsX9_stands) := goodIn_app (goodIn_of _ (by decide +kernel)) ggX9_search_X9_stands
set_option maxRecDepth 20000 in
theorem ggX9_search_X9_sees : GoodIn wsX9_search wsX9_sees := goodIn_r _ [22, 23, 24, 25, 26, 27, 28, 29, 30, 31, 32, 33, 34, 35, 36, 37, 38, 39, 40, 41, 42, 43, 44, 45, 46, 47, 48, 49, 50, 51, 52, 53, 54, 55, 56, 57, 58, 59, 60, 61, 62] (by decide +kernel) (by decide +kernel)
set_option maxRecDepth 20000 in
theorem gX9_search_X9_sees : GoodIn wsX9_search (wsV RX9 124 RX9 yX9_sees wsX9_sees) := goodIn_app (goodIn_of _ (by decide +kernel)) ggX9_search_X9_sees
theorem dX9_search_0 : decode cX9_search 0 = .ok (.iload_n 1, 1) := by decide +kernel
theorem dX9_search_1 : decode cX9_search 1 = .ok (.invokestatic 113, 3) := by decide +kernel
theorem dX9_search_4 : decode cX9_search 4 = .ok (.ifCond .ne 5, 3) := by decide +kernel
theorem dX9_search_7 : decode cX9_search 7 = .ok (.iconst (-1), 1) := by decide +kernel
theorem dX9_search_8 : decode cX9_search 8 = .ok (.ireturn, 1) := by decide +kernel
theorem dX9_search_9 : decode cX9_search 9 = .ok (.aload_n 0, 1) := by decide +kernel
theorem dX9_search_10 : decode cX9_search 10 = .ok (.getfield 101, 3) := by decide +kernel
theorem dX9_search_13 : decode cX9_search 13 = .ok (.iconst 1, 1) := by decide +kernel
theorem dX9_search_14 : decode cX9_search 14 = .ok (.bipush 20, 2) := by decide +kernel
theorem dX9_search_16 : decode cX9_search 16 = .ok (.invokestatic 93, 3) := by decide +kernel
theorem dX9_search_19 : decode cX9_search 19 = .ok (.ifCond .ne 6, 3) := by decide +kernel
theorem dX9_search_22 : decode cX9_search 22 = .ok (.bipush (-2), 2) := by decide +kernel
theorem dX9_search_24 : decode cX9_search 24 = .ok (.ireturn, 1) := by decide +kernel
theorem dX9_search_25 : decode cX9_search 25 = .ok (.iconst 0, 1) := by decide +kernel
theorem dX9_search_26 : decode cX9_search 26 = .ok (.istore_n 2, 1) := by decide +kernel
theorem dX9_search_27 : decode cX9_search 27 = .ok (.iconst 0, 1) := by decide +kernel
theorem dX9_search_28 : decode cX9_search 28 = .ok (.istore_n 3, 1) := by decide +kernel
theorem dX9_search_29 : decode cX9_search 29 = .ok (.iload_n 3, 1) := by decide +kernel
theorem dX9_search_30 : decode cX9_search 30 = .ok (.aload_n 0, 1) := by decide +kernel
theorem dX9_search_31 : decode cX9_search 31 = .ok (.getfield 90, 3) := by decide +kernel
theorem dX9_search_34 : decode cX9_search 34 = .ok (.if_icmp .ge 84, 3) := by decide +kernel
theorem dX9_search_37 : decode cX9_search 37 = .ok (.iconst 4, 1) := by decide +kernel
theorem dX9_search_38 : decode cX9_search 38 = .ok (.iload_n 3, 1) := by decide +kernel
theorem dX9_search_39 : decode cX9_search 39 = .ok (.imul, 1) := by decide +kernel
theorem dX9_search_40 : decode cX9_search 40 = .ok (.aload_n 0, 1) := by decide +kernel
theorem dX9_search_41 : decode cX9_search 41 = .ok (.getfield 32, 3) := by decide +kernel
theorem dX9_search_44 : decode cX9_search 44 = .ok (.iload_n 3, 1) := by decide +kernel
theorem dX9_search_45 : decode cX9_search 45 = .ok (.iaload, 1) := by decide +kernel
theorem dX9_search_46 : decode cX9_search 46 = .ok (.iadd, 1) := by decide +kernel
theorem dX9_search_47 : decode cX9_search 47 = .ok (.iconst 1, 1) := by decide +kernel
theorem dX9_search_48 : decode cX9_search 48 = .ok (.isub, 1) := by decide +kernel
theorem dX9_search_49 : decode cX9_search 49 = .ok (.istore 4, 2) := by decide +kernel
theorem dX9_search_51 : decode cX9_search 51 = .ok (.iconst 0, 1) := by decide +kernel
theorem dX9_search_52 : decode cX9_search 52 = .ok (.istore 5, 2) := by decide +kernel
theorem dX9_search_54 : decode cX9_search 54 = .ok (.iconst 0, 1) := by decide +kernel
theorem dX9_search_55 : decode cX9_search 55 = .ok (.istore 6, 2) := by decide +kernel
theorem dX9_search_57 : decode cX9_search 57 = .ok (.iload 6, 2) := by decide +kernel
theorem dX9_search_59 : decode cX9_search 59 = .ok (.aload_n 0, 1) := by decide +kernel
theorem dX9_search_60 : decode cX9_search 60 = .ok (.getfield 35, 3) := by decide +kernel
theorem dX9_search_63 : decode cX9_search 63 = .ok (.iload 4, 2) := by decide +kernel
theorem dX9_search_65 : decode cX9_search 65 = .ok (.iaload, 1) := by decide +kernel
theorem dX9_search_66 : decode cX9_search 66 = .ok (.if_icmp .ge 24, 3) := by decide +kernel
theorem dX9_search_69 : decode cX9_search 69 = .ok (.iload 5, 2) := by decide +kernel
theorem dX9_search_71 : decode cX9_search 71 = .ok (.ifCond .ne 19, 3) := by decide +kernel
theorem dX9_search_74 : decode cX9_search 74 = .ok (.aload_n 0, 1) := by decide +kernel
theorem dX9_search_75 : decode cX9_search 75 = .ok (.iload 4, 2) := by decide +kernel
theorem dX9_search_77 : decode cX9_search 77 = .ok (.iload 6, 2) := by decide +kernel
theorem dX9_search_79 : decode cX9_search 79 = .ok (.invokevirtual 140, 3) := by decide +kernel
theorem dX9_search_82 : decode cX9_search 82 = .ok (.istore 5, 2) := by decide +kernel
theorem dX9_search_84 : decode cX9_search 84 = .ok (.iinc 6 1, 3) := by decide +kernel
theorem dX9_search_87 : decode cX9_search 87 = .ok (.goto (-30), 3) := by decide +kernel
theorem dX9_search_90 : decode cX9_search 90 = .ok (.iload_n 2, 1) := by decide +kernel
theorem dX9_search_91 : decode cX9_search 91 = .ok (.iload 5, 2) := by decide +kernel
theorem dX9_search_93 : decode cX9_search 93 = .ok (.ifCond .eq 16, 3) := by decide +kernel
theorem dX9_search_96 : decode cX9_search 96 = .ok (.aload_n 0, 1) := by decide +kernel
theorem dX9_search_97 : decode cX9_search 97 = .ok (.iload_n 1, 1) := by decide +kernel
theorem dX9_search_98 : decode cX9_search 98 = .ok (.iload_n 3, 1) := by decide +kernel
theorem dX9_search_99 : decode cX9_search 99 = .ok (.invokevirtual 124, 3) := by decide +kernel
theorem dX9_search_102 : decode cX9_search 102 = .ok (.ifCond .eq 7, 3) := by decide +kernel
theorem dX9_search_105 : decode cX9_search 105 = .ok (.iconst 1, 1) := by decide +kernel
theorem dX9_search_106 : decode cX9_search 106 = .ok (.goto 4, 3) := by decide +kernel
theorem dX9_search_109 : decode cX9_search 109 = .ok (.iconst 0, 1) := by decide +kernel
theorem dX9_search_110 : decode cX9_search 110 = .ok (.iadd, 1) := by decide +kernel
theorem dX9_search_111 : decode cX9_search 111 = .ok (.istore_n 2, 1) := by decide +kernel
theorem dX9_search_112 : decode cX9_search 112 = .ok (.iinc 3 1, 3) := by decide +kernel
theorem dX9_search_115 : decode cX9_search 115 = .ok (.goto (-86), 3) := by decide +kernel
theorem dX9_search_118 : decode cX9_search 118 = .ok (.iload_n 2, 1) := by decide +kernel
theorem dX9_search_119 : decode cX9_search 119 = .ok (.ireturn, 1) := by decide +kernel
set_option maxRecDepth 20000 in
theorem ggX9_named_X9_isVersion : GoodIn wsX9_named wsX9_isVersion := goodIn_r _ [10, 11, 12, 13, 14, 9, 15, 16, 17, 18, 19, 27, 28, 29, 30, 31, 32, 33, 34, 35, 36, 37, 38, 39, 40, 41, 42, 43, 44, 45, 46, 47, 48, 49, 50, 51, 52, 53, 54, 55, 56, 57, 58, 59] (by decide +kernel) (by decide +kernel)
set_option maxRecDepth 20000 in
theorem gX9_named_X9_isVersion : GoodIn wsX9_named (wsV RX9 108 RX9 yX9_isVersion wsX9_isVersion) := goodIn_app (goodIn_of _ (by decide +kernel)) ggX9_named_X9_isVersion
set_option maxRecDepth 20000 in
theorem ggX9_named_X9_makes : GoodIn wsX9_named wsX9_makes := goodIn_r _ [23, 3, 24, 25, 26, 4, 1, 27, 28, 29, 30, 31, 32, 33, 34, 35, 36, 37, 38, 39, 40, 41, 42, 43, 44, 45, 46, 47, 48, 49, 50, 51, 52, 53, 54, 55, 56, 57, 58, 59] (by decide +kernel) (by decide +kernel)
set_option maxRecDepth 20000 in
theorem gX9_named_X9_makes : GoodIn wsX9_named (wsV RX9 130 RX9 yX9_makes wsX9_makes) := goodIn_app (goodIn_of _ (by decide +kernel)) ggX9_named_X9_makes
theorem dX9_named_0 : decode cX9_named 0 = .ok (.aload_n 0, 1) := by decide +kernel
theorem dX9_named_1 : decode cX9_named 1 = .ok (.iload_n 1, 1) := by decide +kernel
theorem dX9_named_2 : decode cX9_named 2 = .ok (.iload_n 2, 1) := by decide +kernel
theorem dX9_named_3 : decode cX9_named 3 = .ok (.invokevirtual 108, 3) := by decide +kernel
theorem dX9_named_6 : decode cX9_named 6 = .ok (.ifCond .eq 13, 3) := by decide +kernel
theorem dX9_named_9 : decode cX9_named 9 = .ok (.aload_n 0, 1) := by decide +kernel
theorem dX9_named_10 : decode cX9_named 10 = .ok (.getfield 19, 3) := by decide +kernel
theorem dX9_named_13 : decode cX9_named 13 = .ok (.iload_n 1, 1) := by decide +kernel
theorem dX9_named_14 : decode cX9_named 14 = .ok (.iaload, 1) := by decide +kernel
theorem dX9_named_15 : decode cX9_named 15 = .ok (.iconst 2, 1) := by decide +kernel
theorem dX9_named_16 : decode cX9_named 16 = .ok (.if_icmp .eq 5, 3) := by decide +kernel
theorem dX9_named_19 : decode cX9_named 19 = .ok (.iconst (-1), 1) := by decide +kernel
theorem dX9_named_20 : decode cX9_named 20 = .ok (.ireturn, 1) := by decide +kernel
theorem dX9_named_21 : decode cX9_named 21 = .ok (.aload_n 0, 1) := by decide +kernel
theorem dX9_named_22 : decode cX9_named 22 = .ok (.getfield 101, 3) := by decide +kernel
theorem dX9_named_25 : decode cX9_named 25 = .ok (.ifCond .ne 6, 3) := by decide +kernel
theorem dX9_named_28 : decode cX9_named 28 = .ok (.bipush (-2), 2) := by decide +kernel
theorem dX9_named_30 : decode cX9_named 30 = .ok (.ireturn, 1) := by decide +kernel
theorem dX9_named_31 : decode cX9_named 31 = .ok (.iconst 0, 1) := by decide +kernel
theorem dX9_named_32 : decode cX9_named 32 = .ok (.istore_n 3, 1) := by decide +kernel
theorem dX9_named_33 : decode cX9_named 33 = .ok (.iconst 0, 1) := by decide +kernel
theorem dX9_named_34 : decode cX9_named 34 = .ok (.istore 4, 2) := by decide +kernel
theorem dX9_named_36 : decode cX9_named 36 = .ok (.iload 4, 2) := by decide +kernel
theorem dX9_named_38 : decode cX9_named 38 = .ok (.bipush 6, 2) := by decide +kernel
theorem dX9_named_40 : decode cX9_named 40 = .ok (.if_icmp .ge 98, 3) := by decide +kernel
theorem dX9_named_43 : decode cX9_named 43 = .ok (.aload_n 0, 1) := by decide +kernel
theorem dX9_named_44 : decode cX9_named 44 = .ok (.iload 4, 2) := by decide +kernel
theorem dX9_named_46 : decode cX9_named 46 = .ok (.iload_n 1, 1) := by decide +kernel
theorem dX9_named_47 : decode cX9_named 47 = .ok (.iload_n 2, 1) := by decide +kernel
theorem dX9_named_48 : decode cX9_named 48 = .ok (.invokevirtual 130, 3) := by decide +kernel
theorem dX9_named_51 : decode cX9_named 51 = .ok (.aload_n 0, 1) := by decide +kernel
theorem dX9_named_52 : decode cX9_named 52 = .ok (.getfield 101, 3) := by decide +kernel
theorem dX9_named_55 : decode cX9_named 55 = .ok (.aload_n 0, 1) := by decide +kernel
theorem dX9_named_56 : decode cX9_named 56 = .ok (.getfield 127, 3) := by decide +kernel
theorem dX9_named_59 : decode cX9_named 59 = .ok (.if_icmp .gt 7, 3) := by decide +kernel
theorem dX9_named_62 : decode cX9_named 62 = .ok (.iconst 1, 1) := by decide +kernel
theorem dX9_named_63 : decode cX9_named 63 = .ok (.goto 4, 3) := by decide +kernel
theorem dX9_named_66 : decode cX9_named 66 = .ok (.iconst 0, 1) := by decide +kernel
theorem dX9_named_67 : decode cX9_named 67 = .ok (.istore 5, 2) := by decide +kernel
theorem dX9_named_69 : decode cX9_named 69 = .ok (.iconst 0, 1) := by decide +kernel
theorem dX9_named_70 : decode cX9_named 70 = .ok (.istore 6, 2) := by decide +kernel
theorem dX9_named_72 : decode cX9_named 72 = .ok (.iload 6, 2) := by decide +kernel
theorem dX9_named_74 : decode cX9_named 74 = .ok (.aload_n 0, 1) := by decide +kernel
theorem dX9_named_75 : decode cX9_named 75 = .ok (.getfield 101, 3) := by decide +kernel
theorem dX9_named_78 : decode cX9_named 78 = .ok (.if_icmp .ge 38, 3) := by decide +kernel
theorem dX9_named_81 : decode cX9_named 81 = .ok (.iload 5, 2) := by decide +kernel
theorem dX9_named_83 : decode cX9_named 83 = .ok (.ifCond .eq 33, 3) := by decide +kernel
theorem dX9_named_86 : decode cX9_named 86 = .ok (.aload_n 0, 1) := by decide +kernel
theorem dX9_named_87 : decode cX9_named 87 = .ok (.getfield 83, 3) := by decide +kernel
theorem dX9_named_90 : decode cX9_named 90 = .ok (.iload 6, 2) := by decide +kernel
theorem dX9_named_92 : decode cX9_named 92 = .ok (.iaload, 1) := by decide +kernel
theorem dX9_named_93 : decode cX9_named 93 = .ok (.aload_n 0, 1) := by decide +kernel
theorem dX9_named_94 : decode cX9_named 94 = .ok (.getfield 7, 3) := by decide +kernel
theorem dX9_named_97 : decode cX9_named 97 = .ok (.iload 6, 2) := by decide +kernel
theorem dX9_named_99 : decode cX9_named 99 = .ok (.iaload, 1) := by decide +kernel
theorem dX9_named_100 : decode cX9_named 100 = .ok (.if_icmp .ne 7, 3) := by decide +kernel
theorem dX9_named_103 : decode cX9_named 103 = .ok (.iconst 1, 1) := by decide +kernel
theorem dX9_named_104 : decode cX9_named 104 = .ok (.goto 4, 3) := by decide +kernel
theorem dX9_named_107 : decode cX9_named 107 = .ok (.iconst 0, 1) := by decide +kernel
theorem dX9_named_108 : decode cX9_named 108 = .ok (.istore 5, 2) := by decide +kernel
theorem dX9_named_110 : decode cX9_named 110 = .ok (.iinc 6 1, 3) := by decide +kernel
theorem dX9_named_113 : decode cX9_named 113 = .ok (.goto (-41), 3) := by decide +kernel
theorem dX9_named_116 : decode cX9_named 116 = .ok (.iload_n 3, 1) := by decide +kernel
theorem dX9_named_117 : decode cX9_named 117 = .ok (.iload 5, 2) := by decide +kernel
theorem dX9_named_119 : decode cX9_named 119 = .ok (.ifCond .eq 10, 3) := by decide +kernel
theorem dX9_named_122 : decode cX9_named 122 = .ok (.iconst 1, 1) := by decide +kernel
theorem dX9_named_123 : decode cX9_named 123 = .ok (.iload 4, 2) := by decide +kernel
theorem dX9_named_125 : decode cX9_named 125 = .ok (.ishl, 1) := by decide +kernel
theorem dX9_named_126 : decode cX9_named 126 = .ok (.goto 4, 3) := by decide +kernel
theorem dX9_named_129 : decode cX9_named 129 = .ok (.iconst 0, 1) := by decide +kernel
theorem dX9_named_130 : decode cX9_named 130 = .ok (.ior, 1) := by decide +kernel
theorem dX9_named_131 : decode cX9_named 131 = .ok (.istore_n 3, 1) := by decide +kernel
theorem dX9_named_132 : decode cX9_named 132 = .ok (.iinc 4 1, 3) := by decide +kernel
theorem dX9_named_135 : decode cX9_named 135 = .ok (.goto (-99), 3) := by decide +kernel
theorem dX9_named_138 : decode cX9_named 138 = .ok (.iload_n 3, 1) := by decide +kernel
theorem dX9_named_139 : decode cX9_named 139 = .ok (.ireturn, 1) := by decide +kernel
set_option maxRecDepth 20000 in
theorem ggX9_log_X9_in : GoodIn wsX9_log wsX9_in := goodIn_r _ [9] (by decide +kernel) (by decide +kernel)
set_option maxRecDepth 20000 in
theorem gX9_log_X9_in : GoodIn wsX9_log (va_wsS RX9 93 yX9_in wsX9_in) := goodIn_app (goodIn_of _ (by decide +kernel)) ggX9_log_X9_in
theorem dX9_log_0 : decode cX9_log 0 = .ok (.iload_n 1, 1) := by decide +kernel
theorem dX9_log_1 : decode cX9_log 1 = .ok (.iconst 0, 1) := by decide +kernel
theorem dX9_log_2 : decode cX9_log 2 = .ok (.aload_n 0, 1) := by decide +kernel
theorem dX9_log_3 : decode cX9_log 3 = .ok (.getfield 134, 3) := by decide +kernel
theorem dX9_log_6 : decode cX9_log 6 = .ok (.iconst 1, 1) := by decide +kernel
theorem dX9_log_7 : decode cX9_log 7 = .ok (.isub, 1) := by decide +kernel
theorem dX9_log_8 : decode cX9_log 8 = .ok (.invokestatic 93, 3) := by decide +kernel
theorem dX9_log_11 : decode cX9_log 11 = .ok (.ifCond .ne 5, 3) := by decide +kernel
theorem dX9_log_14 : decode cX9_log 14 = .ok (.iconst (-1), 1) := by decide +kernel
theorem dX9_log_15 : decode cX9_log 15 = .ok (.ireturn, 1) := by decide +kernel
theorem dX9_log_16 : decode cX9_log 16 = .ok (.iload_n 2, 1) := by decide +kernel
theorem dX9_log_17 : decode cX9_log 17 = .ok (.tableswitch 59 0 3 #[31, 38, 45, 52], 31) := by decide +kernel
theorem dX9_log_48 : decode cX9_log 48 = .ok (.aload_n 0, 1) := by decide +kernel
theorem dX9_log_49 : decode cX9_log 49 = .ok (.getfield 50, 3) := by decide +kernel
theorem dX9_log_52 : decode cX9_log 52 = .ok (.iload_n 1, 1) := by decide +kernel
theorem dX9_log_53 : decode cX9_log 53 = .ok (.iaload, 1) := by decide +kernel
theorem dX9_log_54 : decode cX9_log 54 = .ok (.ireturn, 1) := by decide +kernel
theorem dX9_log_55 : decode cX9_log 55 = .ok (.aload_n 0, 1) := by decide +kernel
theorem dX9_log_56 : decode cX9_log 56 = .ok (.getfield 53, 3) := by decide +kernel
theorem dX9_log_59 : decode cX9_log 59 = .ok (.iload_n 1, 1) := by decide +kernel
theorem dX9_log_60 : decode cX9_log 60 = .ok (.iaload, 1) := by decide +kernel
theorem dX9_log_61 : decode cX9_log 61 = .ok (.ireturn, 1) := by decide +kernel
theorem dX9_log_62 : decode cX9_log 62 = .ok (.aload_n 0, 1) := by decide +kernel
theorem dX9_log_63 : decode cX9_log 63 = .ok (.getfield 56, 3) := by decide +kernel
theorem dX9_log_66 : decode cX9_log 66 = .ok (.iload_n 1, 1) := by decide +kernel
theorem dX9_log_67 : decode cX9_log 67 = .ok (.iaload, 1) := by decide +kernel
theorem dX9_log_68 : decode cX9_log 68 = .ok (.ireturn, 1) := by decide +kernel
theorem dX9_log_69 : decode cX9_log 69 = .ok (.aload_n 0, 1) := by decide +kernel
theorem dX9_log_70 : decode cX9_log 70 = .ok (.getfield 59, 3) := by decide +kernel
theorem dX9_log_73 : decode cX9_log 73 = .ok (.iload_n 1, 1) := by decide +kernel
theorem dX9_log_74 : decode cX9_log 74 = .ok (.iaload, 1) := by decide +kernel
theorem dX9_log_75 : decode cX9_log 75 = .ok (.ireturn, 1) := by decide +kernel
theorem dX9_log_76 : decode cX9_log 76 = .ok (.iconst (-1), 1) := by decide +kernel
theorem dX9_log_77 : decode cX9_log 77 = .ok (.ireturn, 1) := by decide +kernel
set_option maxRecDepth 20000 in
theorem ggX9_chain_X9_in : GoodIn wsX9_chain wsX9_in := goodIn_r _ [14] (by decide +kernel) (by decide +kernel)
set_option maxRecDepth 20000 in
theorem gX9_chain_X9_in : GoodIn wsX9_chain (va_wsS RX9 93 yX9_in wsX9_in) := goodIn_app (goodIn_of _ (by decide +kernel)) ggX9_chain_X9_in
theorem dX9_chain_0 : decode cX9_chain 0 = .ok (.iload_n 1, 1) := by decide +kernel
theorem dX9_chain_1 : decode cX9_chain 1 = .ok (.iconst 0, 1) := by decide +kernel
theorem dX9_chain_2 : decode cX9_chain 2 = .ok (.aload_n 0, 1) := by decide +kernel
theorem dX9_chain_3 : decode cX9_chain 3 = .ok (.getfield 134, 3) := by decide +kernel
theorem dX9_chain_6 : decode cX9_chain 6 = .ok (.iconst 1, 1) := by decide +kernel
theorem dX9_chain_7 : decode cX9_chain 7 = .ok (.isub, 1) := by decide +kernel
theorem dX9_chain_8 : decode cX9_chain 8 = .ok (.invokestatic 93, 3) := by decide +kernel
theorem dX9_chain_11 : decode cX9_chain 11 = .ok (.ifCond .ne 5, 3) := by decide +kernel
theorem dX9_chain_14 : decode cX9_chain 14 = .ok (.lconst 0, 1) := by decide +kernel
theorem dX9_chain_15 : decode cX9_chain 15 = .ok (.lreturn, 1) := by decide +kernel
theorem dX9_chain_16 : decode cX9_chain 16 = .ok (.ldc2_w 143, 3) := by decide +kernel
theorem dX9_chain_19 : decode cX9_chain 19 = .ok (.lstore_n 2, 1) := by decide +kernel
theorem dX9_chain_20 : decode cX9_chain 20 = .ok (.iconst 0, 1) := by decide +kernel
theorem dX9_chain_21 : decode cX9_chain 21 = .ok (.istore 4, 2) := by decide +kernel
theorem dX9_chain_23 : decode cX9_chain 23 = .ok (.iload 4, 2) := by decide +kernel
theorem dX9_chain_25 : decode cX9_chain 25 = .ok (.iload_n 1, 1) := by decide +kernel
theorem dX9_chain_26 : decode cX9_chain 26 = .ok (.if_icmp .gt 63, 3) := by decide +kernel
theorem dX9_chain_29 : decode cX9_chain 29 = .ok (.ldc2_w 145, 3) := by decide +kernel
theorem dX9_chain_32 : decode cX9_chain 32 = .ok (.lload_n 2, 1) := by decide +kernel
theorem dX9_chain_33 : decode cX9_chain 33 = .ok (.lmul, 1) := by decide +kernel
theorem dX9_chain_34 : decode cX9_chain 34 = .ok (.ldc2_w 147, 3) := by decide +kernel
theorem dX9_chain_37 : decode cX9_chain 37 = .ok (.aload_n 0, 1) := by decide +kernel
theorem dX9_chain_38 : decode cX9_chain 38 = .ok (.getfield 50, 3) := by decide +kernel
theorem dX9_chain_41 : decode cX9_chain 41 = .ok (.iload 4, 2) := by decide +kernel
theorem dX9_chain_43 : decode cX9_chain 43 = .ok (.iaload, 1) := by decide +kernel
theorem dX9_chain_44 : decode cX9_chain 44 = .ok (.i2l, 1) := by decide +kernel
theorem dX9_chain_45 : decode cX9_chain 45 = .ok (.lmul, 1) := by decide +kernel
theorem dX9_chain_46 : decode cX9_chain 46 = .ok (.ladd, 1) := by decide +kernel
theorem dX9_chain_47 : decode cX9_chain 47 = .ok (.ldc2_w 149, 3) := by decide +kernel
theorem dX9_chain_50 : decode cX9_chain 50 = .ok (.aload_n 0, 1) := by decide +kernel
theorem dX9_chain_51 : decode cX9_chain 51 = .ok (.getfield 53, 3) := by decide +kernel
theorem dX9_chain_54 : decode cX9_chain 54 = .ok (.iload 4, 2) := by decide +kernel
theorem dX9_chain_56 : decode cX9_chain 56 = .ok (.iaload, 1) := by decide +kernel
theorem dX9_chain_57 : decode cX9_chain 57 = .ok (.i2l, 1) := by decide +kernel
theorem dX9_chain_58 : decode cX9_chain 58 = .ok (.lmul, 1) := by decide +kernel
theorem dX9_chain_59 : decode cX9_chain 59 = .ok (.ladd, 1) := by decide +kernel
theorem dX9_chain_60 : decode cX9_chain 60 = .ok (.ldc2_w 151, 3) := by decide +kernel
theorem dX9_chain_63 : decode cX9_chain 63 = .ok (.aload_n 0, 1) := by decide +kernel
theorem dX9_chain_64 : decode cX9_chain 64 = .ok (.getfield 56, 3) := by decide +kernel
theorem dX9_chain_67 : decode cX9_chain 67 = .ok (.iload 4, 2) := by decide +kernel
theorem dX9_chain_69 : decode cX9_chain 69 = .ok (.iaload, 1) := by decide +kernel
theorem dX9_chain_70 : decode cX9_chain 70 = .ok (.i2l, 1) := by decide +kernel
theorem dX9_chain_71 : decode cX9_chain 71 = .ok (.lmul, 1) := by decide +kernel
theorem dX9_chain_72 : decode cX9_chain 72 = .ok (.ladd, 1) := by decide +kernel
theorem dX9_chain_73 : decode cX9_chain 73 = .ok (.aload_n 0, 1) := by decide +kernel
theorem dX9_chain_74 : decode cX9_chain 74 = .ok (.getfield 59, 3) := by decide +kernel
theorem dX9_chain_77 : decode cX9_chain 77 = .ok (.iload 4, 2) := by decide +kernel
theorem dX9_chain_79 : decode cX9_chain 79 = .ok (.iaload, 1) := by decide +kernel
theorem dX9_chain_80 : decode cX9_chain 80 = .ok (.i2l, 1) := by decide +kernel
theorem dX9_chain_81 : decode cX9_chain 81 = .ok (.ladd, 1) := by decide +kernel
theorem dX9_chain_82 : decode cX9_chain 82 = .ok (.lstore_n 2, 1) := by decide +kernel
theorem dX9_chain_83 : decode cX9_chain 83 = .ok (.iinc 4 1, 3) := by decide +kernel
theorem dX9_chain_86 : decode cX9_chain 86 = .ok (.goto (-63), 3) := by decide +kernel
theorem dX9_chain_89 : decode cX9_chain 89 = .ok (.lload_n 2, 1) := by decide +kernel
theorem dX9_chain_90 : decode cX9_chain 90 = .ok (.lreturn, 1) := by decide +kernel
set_option maxRecDepth 20000 in
theorem ggX9_times_X9_isBidder : GoodIn wsX9_times wsX9_isBidder := goodIn_r _ [8, 9, 10, 7, 11] (by decide +kernel) (by decide +kernel)
set_option maxRecDepth 20000 in
theorem gX9_times_X9_isBidder : GoodIn wsX9_times (va_wsS RX9 113 yX9_isBidder wsX9_isBidder) := goodIn_app (goodIn_of _ (by decide +kernel)) ggX9_times_X9_isBidder
set_option maxRecDepth 20000 in
theorem ggX9_times_X9_isVersion : GoodIn wsX9_times wsX9_isVersion := goodIn_r _ [15, 16, 17, 18, 19, 7, 20, 21, 9, 10, 11, 22, 23, 24, 25, 26, 27, 28, 29, 30, 31, 32, 33, 34, 35, 36, 37, 38, 39, 40, 41, 42, 43, 44, 45, 46, 47, 48, 49, 50, 51, 52, 53, 54] (by decide +kernel) (by decide +kernel)
set_option maxRecDepth 20000 in
theorem gX9_times_X9_isVersion : GoodIn wsX9_times (wsV RX9 108 RX9 yX9_isVersion wsX9_isVersion) := goodIn_app (goodIn_of _ (by decide +kernel)) ggX9_times_X9_isVersion
theorem dX9_times_0 : decode cX9_times 0 = .ok (.iload_n 1, 1) := by decide +kernel
theorem dX9_times_1 : decode cX9_times 1 = .ok (.invokestatic 113, 3) := by decide +kernel
theorem dX9_times_4 : decode cX9_times 4 = .ok (.ifCond .eq 12, 3) := by decide +kernel
theorem dX9_times_7 : decode cX9_times 7 = .ok (.aload_n 0, 1) := by decide +kernel
theorem dX9_times_8 : decode cX9_times 8 = .ok (.iload_n 2, 1) := by decide +kernel
theorem dX9_times_9 : decode cX9_times 9 = .ok (.iload_n 3, 1) := by decide +kernel
theorem dX9_times_10 : decode cX9_times 10 = .ok (.invokevirtual 108, 3) := by decide +kernel
theorem dX9_times_13 : decode cX9_times 13 = .ok (.ifCond .ne 5, 3) := by decide +kernel
theorem dX9_times_16 : decode cX9_times 16 = .ok (.iconst (-1), 1) := by decide +kernel
theorem dX9_times_17 : decode cX9_times 17 = .ok (.ireturn, 1) := by decide +kernel
theorem dX9_times_18 : decode cX9_times 18 = .ok (.iconst 0, 1) := by decide +kernel
theorem dX9_times_19 : decode cX9_times 19 = .ok (.istore 4, 2) := by decide +kernel
theorem dX9_times_21 : decode cX9_times 21 = .ok (.iconst 0, 1) := by decide +kernel
theorem dX9_times_22 : decode cX9_times 22 = .ok (.istore 5, 2) := by decide +kernel
theorem dX9_times_24 : decode cX9_times 24 = .ok (.iload 5, 2) := by decide +kernel
theorem dX9_times_26 : decode cX9_times 26 = .ok (.aload_n 0, 1) := by decide +kernel
theorem dX9_times_27 : decode cX9_times 27 = .ok (.getfield 134, 3) := by decide +kernel
theorem dX9_times_30 : decode cX9_times 30 = .ok (.if_icmp .ge 52, 3) := by decide +kernel
theorem dX9_times_33 : decode cX9_times 33 = .ok (.iload 4, 2) := by decide +kernel
theorem dX9_times_35 : decode cX9_times 35 = .ok (.aload_n 0, 1) := by decide +kernel
theorem dX9_times_36 : decode cX9_times 36 = .ok (.getfield 53, 3) := by decide +kernel
theorem dX9_times_39 : decode cX9_times 39 = .ok (.iload 5, 2) := by decide +kernel
theorem dX9_times_41 : decode cX9_times 41 = .ok (.iaload, 1) := by decide +kernel
theorem dX9_times_42 : decode cX9_times 42 = .ok (.iload_n 1, 1) := by decide +kernel
theorem dX9_times_43 : decode cX9_times 43 = .ok (.if_icmp .ne 29, 3) := by decide +kernel
theorem dX9_times_46 : decode cX9_times 46 = .ok (.aload_n 0, 1) := by decide +kernel
theorem dX9_times_47 : decode cX9_times 47 = .ok (.getfield 56, 3) := by decide +kernel
theorem dX9_times_50 : decode cX9_times 50 = .ok (.iload 5, 2) := by decide +kernel
theorem dX9_times_52 : decode cX9_times 52 = .ok (.iaload, 1) := by decide +kernel
theorem dX9_times_53 : decode cX9_times 53 = .ok (.iload_n 2, 1) := by decide +kernel
theorem dX9_times_54 : decode cX9_times 54 = .ok (.if_icmp .ne 18, 3) := by decide +kernel
theorem dX9_times_57 : decode cX9_times 57 = .ok (.aload_n 0, 1) := by decide +kernel
theorem dX9_times_58 : decode cX9_times 58 = .ok (.getfield 59, 3) := by decide +kernel
theorem dX9_times_61 : decode cX9_times 61 = .ok (.iload 5, 2) := by decide +kernel
theorem dX9_times_63 : decode cX9_times 63 = .ok (.iaload, 1) := by decide +kernel
theorem dX9_times_64 : decode cX9_times 64 = .ok (.iload_n 3, 1) := by decide +kernel
theorem dX9_times_65 : decode cX9_times 65 = .ok (.if_icmp .ne 7, 3) := by decide +kernel
theorem dX9_times_68 : decode cX9_times 68 = .ok (.iconst 1, 1) := by decide +kernel
theorem dX9_times_69 : decode cX9_times 69 = .ok (.goto 4, 3) := by decide +kernel
theorem dX9_times_72 : decode cX9_times 72 = .ok (.iconst 0, 1) := by decide +kernel
theorem dX9_times_73 : decode cX9_times 73 = .ok (.iadd, 1) := by decide +kernel
theorem dX9_times_74 : decode cX9_times 74 = .ok (.istore 4, 2) := by decide +kernel
theorem dX9_times_76 : decode cX9_times 76 = .ok (.iinc 5 1, 3) := by decide +kernel
theorem dX9_times_79 : decode cX9_times 79 = .ok (.goto (-55), 3) := by decide +kernel
theorem dX9_times_82 : decode cX9_times 82 = .ok (.iload 4, 2) := by decide +kernel
theorem dX9_times_84 : decode cX9_times 84 = .ok (.ireturn, 1) := by decide +kernel
theorem dX9_find_0 : decode cX9_find 0 = .ok (.iconst 0, 1) := by decide +kernel
theorem dX9_find_1 : decode cX9_find 1 = .ok (.istore_n 3, 1) := by decide +kernel
theorem dX9_find_2 : decode cX9_find 2 = .ok (.iload_n 3, 1) := by decide +kernel
theorem dX9_find_3 : decode cX9_find 3 = .ok (.aload_n 0, 1) := by decide +kernel
theorem dX9_find_4 : decode cX9_find 4 = .ok (.getfield 153, 3) := by decide +kernel
theorem dX9_find_7 : decode cX9_find 7 = .ok (.if_icmp .ge 31, 3) := by decide +kernel
theorem dX9_find_10 : decode cX9_find 10 = .ok (.aload_n 0, 1) := by decide +kernel
theorem dX9_find_11 : decode cX9_find 11 = .ok (.getfield 62, 3) := by decide +kernel
theorem dX9_find_14 : decode cX9_find 14 = .ok (.iload_n 3, 1) := by decide +kernel
theorem dX9_find_15 : decode cX9_find 15 = .ok (.iaload, 1) := by decide +kernel
theorem dX9_find_16 : decode cX9_find 16 = .ok (.iload_n 1, 1) := by decide +kernel
theorem dX9_find_17 : decode cX9_find 17 = .ok (.if_icmp .ne 15, 3) := by decide +kernel
theorem dX9_find_20 : decode cX9_find 20 = .ok (.aload_n 0, 1) := by decide +kernel
theorem dX9_find_21 : decode cX9_find 21 = .ok (.getfield 65, 3) := by decide +kernel
theorem dX9_find_24 : decode cX9_find 24 = .ok (.iload_n 3, 1) := by decide +kernel
theorem dX9_find_25 : decode cX9_find 25 = .ok (.iaload, 1) := by decide +kernel
theorem dX9_find_26 : decode cX9_find 26 = .ok (.iload_n 2, 1) := by decide +kernel
theorem dX9_find_27 : decode cX9_find 27 = .ok (.if_icmp .ne 5, 3) := by decide +kernel
theorem dX9_find_30 : decode cX9_find 30 = .ok (.iload_n 3, 1) := by decide +kernel
theorem dX9_find_31 : decode cX9_find 31 = .ok (.ireturn, 1) := by decide +kernel
theorem dX9_find_32 : decode cX9_find 32 = .ok (.iinc 3 1, 3) := by decide +kernel
theorem dX9_find_35 : decode cX9_find 35 = .ok (.goto (-33), 3) := by decide +kernel
theorem dX9_find_38 : decode cX9_find 38 = .ok (.iconst (-1), 1) := by decide +kernel
theorem dX9_find_39 : decode cX9_find 39 = .ok (.ireturn, 1) := by decide +kernel
set_option maxRecDepth 20000 in
theorem ggX9_ask_X9_isBidder : GoodIn wsX9_ask wsX9_isBidder := goodIn_r _ [12, 13, 14, 11, 15] (by decide +kernel) (by decide +kernel)
set_option maxRecDepth 20000 in
theorem gX9_ask_X9_isBidder : GoodIn wsX9_ask (va_wsS RX9 113 yX9_isBidder wsX9_isBidder) := goodIn_app (goodIn_of _ (by decide +kernel)) ggX9_ask_X9_isBidder
set_option maxRecDepth 20000 in
theorem ggX9_ask_X9_isPaper : GoodIn wsX9_ask wsX9_isPaper := goodIn_r _ [19, 20, 13, 14, 11, 15, 35, 36, 37, 38, 39, 40, 41, 42, 43, 44, 45, 46, 47, 48, 49, 50, 51, 52, 53, 54, 55, 56, 57, 58, 59, 60, 61, 62, 63, 64, 65, 66, 67] (by decide +kernel) (by decide +kernel)
set_option maxRecDepth 20000 in
theorem gX9_ask_X9_isPaper : GoodIn wsX9_ask (wsV RX9 97 RX9 yX9_isPaper wsX9_isPaper) := goodIn_app (goodIn_of _ (by decide +kernel)) ggX9_ask_X9_isPaper
set_option maxRecDepth 20000 in
theorem ggX9_ask_X9_in : GoodIn wsX9_ask wsX9_in := goodIn_r _ [15] (by decide +kernel) (by decide +kernel)
set_option maxRecDepth 20000 in
theorem gX9_ask_X9_in : GoodIn wsX9_ask (va_wsS RX9 93 yX9_in wsX9_in) := goodIn_app (goodIn_of _ (by decide +kernel)) ggX9_ask_X9_in
set_option maxRecDepth 20000 in
theorem ggX9_ask_X9_sees : GoodIn wsX9_ask wsX9_sees := goodIn_r _ [24, 25, 26, 2, 27, 28, 29, 30, 35, 36, 37, 38, 39, 40, 41, 42, 43, 44, 45, 46, 47, 48, 49, 50, 51, 52, 53, 54, 55, 56, 57, 58, 59, 60, 61, 62, 63, 64, 65, 66, 67] (by decide +kernel) (by decide +kernel)
set_option maxRecDepth 20000 in
theorem gX9_ask_X9_sees : GoodIn wsX9_ask (wsV RX9 124 RX9 yX9_sees wsX9_sees) := goodIn_app (goodIn_of _ (by decide +kernel)) ggX9_ask_X9_sees
set_option maxRecDepth 20000 in
theorem ggX9_ask_X9_find : GoodIn wsX9_ask wsX9_find := goodIn_r _ [34, 4, 5, 6, 35, 36, 37, 38, 39, 40, 41, 42, 43, 44, 45, 46, 47, 48, 49, 50, 51, 52, 53, 54, 55, 56, 57, 58, 59, 60, 61, 62, 63, 64, 65, 66, 67] (by decide +kernel) (by decide +kernel)
set_option maxRecDepth 20000 in
theorem gX9_ask_X9_find : GoodIn wsX9_ask (wsV RX9 156 RX9 yX9_find wsX9_find) := goodIn_app (goodIn_of _ (by decide +kernel)) ggX9_ask_X9_find
theorem dX9_ask_0 : decode cX9_ask 0 = .ok (.iload_n 1, 1) := by decide +kernel
theorem dX9_ask_1 : decode cX9_ask 1 = .ok (.invokestatic 113, 3) := by decide +kernel
theorem dX9_ask_4 : decode cX9_ask 4 = .ok (.ifCond .eq 21, 3) := by decide +kernel
theorem dX9_ask_7 : decode cX9_ask 7 = .ok (.aload_n 0, 1) := by decide +kernel
theorem dX9_ask_8 : decode cX9_ask 8 = .ok (.iload_n 2, 1) := by decide +kernel
theorem dX9_ask_9 : decode cX9_ask 9 = .ok (.invokevirtual 97, 3) := by decide +kernel
theorem dX9_ask_12 : decode cX9_ask 12 = .ok (.ifCond .eq 13, 3) := by decide +kernel
theorem dX9_ask_15 : decode cX9_ask 15 = .ok (.iload_n 3, 1) := by decide +kernel
theorem dX9_ask_16 : decode cX9_ask 16 = .ok (.iconst 0, 1) := by decide +kernel
theorem dX9_ask_17 : decode cX9_ask 17 = .ok (.bipush 9, 2) := by decide +kernel
theorem dX9_ask_19 : decode cX9_ask 19 = .ok (.invokestatic 93, 3) := by decide +kernel
theorem dX9_ask_22 : decode cX9_ask 22 = .ok (.ifCond .ne 5, 3) := by decide +kernel
theorem dX9_ask_25 : decode cX9_ask 25 = .ok (.iconst (-1), 1) := by decide +kernel
theorem dX9_ask_26 : decode cX9_ask 26 = .ok (.ireturn, 1) := by decide +kernel
theorem dX9_ask_27 : decode cX9_ask 27 = .ok (.aload_n 0, 1) := by decide +kernel
theorem dX9_ask_28 : decode cX9_ask 28 = .ok (.iload_n 1, 1) := by decide +kernel
theorem dX9_ask_29 : decode cX9_ask 29 = .ok (.iload_n 2, 1) := by decide +kernel
theorem dX9_ask_30 : decode cX9_ask 30 = .ok (.invokevirtual 124, 3) := by decide +kernel
theorem dX9_ask_33 : decode cX9_ask 33 = .ok (.ifCond .ne 6, 3) := by decide +kernel
theorem dX9_ask_36 : decode cX9_ask 36 = .ok (.bipush (-4), 2) := by decide +kernel
theorem dX9_ask_38 : decode cX9_ask 38 = .ok (.ireturn, 1) := by decide +kernel
theorem dX9_ask_39 : decode cX9_ask 39 = .ok (.aload_n 0, 1) := by decide +kernel
theorem dX9_ask_40 : decode cX9_ask 40 = .ok (.getfield 77, 3) := by decide +kernel
theorem dX9_ask_43 : decode cX9_ask 43 = .ok (.iload_n 1, 1) := by decide +kernel
theorem dX9_ask_44 : decode cX9_ask 44 = .ok (.iaload, 1) := by decide +kernel
theorem dX9_ask_45 : decode cX9_ask 45 = .ok (.aload_n 0, 1) := by decide +kernel
theorem dX9_ask_46 : decode cX9_ask 46 = .ok (.getfield 86, 3) := by decide +kernel
theorem dX9_ask_49 : decode cX9_ask 49 = .ok (.if_icmp .ne 12, 3) := by decide +kernel
theorem dX9_ask_52 : decode cX9_ask 52 = .ok (.aload_n 0, 1) := by decide +kernel
theorem dX9_ask_53 : decode cX9_ask 53 = .ok (.getfield 80, 3) := by decide +kernel
theorem dX9_ask_56 : decode cX9_ask 56 = .ok (.iload_n 1, 1) := by decide +kernel
theorem dX9_ask_57 : decode cX9_ask 57 = .ok (.iaload, 1) := by decide +kernel
theorem dX9_ask_58 : decode cX9_ask 58 = .ok (.goto 4, 3) := by decide +kernel
theorem dX9_ask_61 : decode cX9_ask 61 = .ok (.iconst 0, 1) := by decide +kernel
theorem dX9_ask_62 : decode cX9_ask 62 = .ok (.istore 4, 2) := by decide +kernel
theorem dX9_ask_64 : decode cX9_ask 64 = .ok (.iload 4, 2) := by decide +kernel
theorem dX9_ask_66 : decode cX9_ask 66 = .ok (.iconst 2, 1) := by decide +kernel
theorem dX9_ask_67 : decode cX9_ask 67 = .ok (.if_icmp .ne 6, 3) := by decide +kernel
theorem dX9_ask_70 : decode cX9_ask 70 = .ok (.bipush (-2), 2) := by decide +kernel
theorem dX9_ask_72 : decode cX9_ask 72 = .ok (.ireturn, 1) := by decide +kernel
theorem dX9_ask_73 : decode cX9_ask 73 = .ok (.aload_n 0, 1) := by decide +kernel
theorem dX9_ask_74 : decode cX9_ask 74 = .ok (.iload_n 2, 1) := by decide +kernel
theorem dX9_ask_75 : decode cX9_ask 75 = .ok (.iload_n 3, 1) := by decide +kernel
theorem dX9_ask_76 : decode cX9_ask 76 = .ok (.invokevirtual 156, 3) := by decide +kernel
theorem dX9_ask_79 : decode cX9_ask 79 = .ok (.istore 5, 2) := by decide +kernel
theorem dX9_ask_81 : decode cX9_ask 81 = .ok (.iload 5, 2) := by decide +kernel
theorem dX9_ask_83 : decode cX9_ask 83 = .ok (.ifCond .ge 15, 3) := by decide +kernel
theorem dX9_ask_86 : decode cX9_ask 86 = .ok (.aload_n 0, 1) := by decide +kernel
theorem dX9_ask_87 : decode cX9_ask 87 = .ok (.getfield 153, 3) := by decide +kernel
theorem dX9_ask_90 : decode cX9_ask 90 = .ok (.bipush 30, 2) := by decide +kernel
theorem dX9_ask_92 : decode cX9_ask 92 = .ok (.if_icmp .ne 6, 3) := by decide +kernel
theorem dX9_ask_95 : decode cX9_ask 95 = .ok (.bipush (-3), 2) := by decide +kernel
theorem dX9_ask_97 : decode cX9_ask 97 = .ok (.ireturn, 1) := by decide +kernel
theorem dX9_ask_98 : decode cX9_ask 98 = .ok (.iload 5, 2) := by decide +kernel
theorem dX9_ask_100 : decode cX9_ask 100 = .ok (.ifCond .ge 51, 3) := by decide +kernel
theorem dX9_ask_103 : decode cX9_ask 103 = .ok (.aload_n 0, 1) := by decide +kernel
theorem dX9_ask_104 : decode cX9_ask 104 = .ok (.getfield 153, 3) := by decide +kernel
theorem dX9_ask_107 : decode cX9_ask 107 = .ok (.istore 5, 2) := by decide +kernel
theorem dX9_ask_109 : decode cX9_ask 109 = .ok (.aload_n 0, 1) := by decide +kernel
theorem dX9_ask_110 : decode cX9_ask 110 = .ok (.dup, 1) := by decide +kernel
theorem dX9_ask_111 : decode cX9_ask 111 = .ok (.getfield 153, 3) := by decide +kernel
theorem dX9_ask_114 : decode cX9_ask 114 = .ok (.iconst 1, 1) := by decide +kernel
theorem dX9_ask_115 : decode cX9_ask 115 = .ok (.iadd, 1) := by decide +kernel
theorem dX9_ask_116 : decode cX9_ask 116 = .ok (.putfield 153, 3) := by decide +kernel
theorem dX9_ask_119 : decode cX9_ask 119 = .ok (.aload_n 0, 1) := by decide +kernel
theorem dX9_ask_120 : decode cX9_ask 120 = .ok (.getfield 62, 3) := by decide +kernel
theorem dX9_ask_123 : decode cX9_ask 123 = .ok (.iload 5, 2) := by decide +kernel
theorem dX9_ask_125 : decode cX9_ask 125 = .ok (.iload_n 2, 1) := by decide +kernel
theorem dX9_ask_126 : decode cX9_ask 126 = .ok (.iastore, 1) := by decide +kernel
theorem dX9_ask_127 : decode cX9_ask 127 = .ok (.aload_n 0, 1) := by decide +kernel
theorem dX9_ask_128 : decode cX9_ask 128 = .ok (.getfield 65, 3) := by decide +kernel
theorem dX9_ask_131 : decode cX9_ask 131 = .ok (.iload 5, 2) := by decide +kernel
theorem dX9_ask_133 : decode cX9_ask 133 = .ok (.iload_n 3, 1) := by decide +kernel
theorem dX9_ask_134 : decode cX9_ask 134 = .ok (.iastore, 1) := by decide +kernel
theorem dX9_ask_135 : decode cX9_ask 135 = .ok (.aload_n 0, 1) := by decide +kernel
theorem dX9_ask_136 : decode cX9_ask 136 = .ok (.getfield 68, 3) := by decide +kernel
theorem dX9_ask_139 : decode cX9_ask 139 = .ok (.iload 5, 2) := by decide +kernel
theorem dX9_ask_141 : decode cX9_ask 141 = .ok (.iconst 0, 1) := by decide +kernel
theorem dX9_ask_142 : decode cX9_ask 142 = .ok (.iastore, 1) := by decide +kernel
theorem dX9_ask_143 : decode cX9_ask 143 = .ok (.aload_n 0, 1) := by decide +kernel
theorem dX9_ask_144 : decode cX9_ask 144 = .ok (.getfield 71, 3) := by decide +kernel
theorem dX9_ask_147 : decode cX9_ask 147 = .ok (.iload 5, 2) := by decide +kernel
theorem dX9_ask_149 : decode cX9_ask 149 = .ok (.iconst 0, 1) := by decide +kernel
theorem dX9_ask_150 : decode cX9_ask 150 = .ok (.iastore, 1) := by decide +kernel
theorem dX9_ask_151 : decode cX9_ask 151 = .ok (.aload_n 0, 1) := by decide +kernel
theorem dX9_ask_152 : decode cX9_ask 152 = .ok (.getfield 68, 3) := by decide +kernel
theorem dX9_ask_155 : decode cX9_ask 155 = .ok (.iload 5, 2) := by decide +kernel
theorem dX9_ask_157 : decode cX9_ask 157 = .ok (.dup2, 1) := by decide +kernel
theorem dX9_ask_158 : decode cX9_ask 158 = .ok (.iaload, 1) := by decide +kernel
theorem dX9_ask_159 : decode cX9_ask 159 = .ok (.iconst 1, 1) := by decide +kernel
theorem dX9_ask_160 : decode cX9_ask 160 = .ok (.iload_n 1, 1) := by decide +kernel
theorem dX9_ask_161 : decode cX9_ask 161 = .ok (.ishl, 1) := by decide +kernel
theorem dX9_ask_162 : decode cX9_ask 162 = .ok (.ior, 1) := by decide +kernel
theorem dX9_ask_163 : decode cX9_ask 163 = .ok (.iastore, 1) := by decide +kernel
theorem dX9_ask_164 : decode cX9_ask 164 = .ok (.aload_n 0, 1) := by decide +kernel
theorem dX9_ask_165 : decode cX9_ask 165 = .ok (.getfield 77, 3) := by decide +kernel
theorem dX9_ask_168 : decode cX9_ask 168 = .ok (.iload_n 1, 1) := by decide +kernel
theorem dX9_ask_169 : decode cX9_ask 169 = .ok (.aload_n 0, 1) := by decide +kernel
theorem dX9_ask_170 : decode cX9_ask 170 = .ok (.getfield 86, 3) := by decide +kernel
theorem dX9_ask_173 : decode cX9_ask 173 = .ok (.iastore, 1) := by decide +kernel
theorem dX9_ask_174 : decode cX9_ask 174 = .ok (.aload_n 0, 1) := by decide +kernel
theorem dX9_ask_175 : decode cX9_ask 175 = .ok (.getfield 80, 3) := by decide +kernel
theorem dX9_ask_178 : decode cX9_ask 178 = .ok (.iload_n 1, 1) := by decide +kernel
theorem dX9_ask_179 : decode cX9_ask 179 = .ok (.iload 4, 2) := by decide +kernel
theorem dX9_ask_181 : decode cX9_ask 181 = .ok (.iconst 1, 1) := by decide +kernel
theorem dX9_ask_182 : decode cX9_ask 182 = .ok (.iadd, 1) := by decide +kernel
theorem dX9_ask_183 : decode cX9_ask 183 = .ok (.iastore, 1) := by decide +kernel
theorem dX9_ask_184 : decode cX9_ask 184 = .ok (.iload 5, 2) := by decide +kernel
theorem dX9_ask_186 : decode cX9_ask 186 = .ok (.ireturn, 1) := by decide +kernel
set_option maxRecDepth 20000 in
theorem ggX9_isQuestion_X9_in : GoodIn wsX9_isQuestion wsX9_in := goodIn_r _ [5] (by decide +kernel) (by decide +kernel)
set_option maxRecDepth 20000 in
theorem gX9_isQuestion_X9_in : GoodIn wsX9_isQuestion (va_wsS RX9 93 yX9_in wsX9_in) := goodIn_app (goodIn_of _ (by decide +kernel)) ggX9_isQuestion_X9_in
theorem dX9_isQuestion_0 : decode cX9_isQuestion 0 = .ok (.iload_n 1, 1) := by decide +kernel
theorem dX9_isQuestion_1 : decode cX9_isQuestion 1 = .ok (.iconst 0, 1) := by decide +kernel
theorem dX9_isQuestion_2 : decode cX9_isQuestion 2 = .ok (.aload_n 0, 1) := by decide +kernel
theorem dX9_isQuestion_3 : decode cX9_isQuestion 3 = .ok (.getfield 153, 3) := by decide +kernel
theorem dX9_isQuestion_6 : decode cX9_isQuestion 6 = .ok (.iconst 1, 1) := by decide +kernel
theorem dX9_isQuestion_7 : decode cX9_isQuestion 7 = .ok (.isub, 1) := by decide +kernel
theorem dX9_isQuestion_8 : decode cX9_isQuestion 8 = .ok (.invokestatic 93, 3) := by decide +kernel
theorem dX9_isQuestion_11 : decode cX9_isQuestion 11 = .ok (.ireturn, 1) := by decide +kernel
set_option maxRecDepth 20000 in
theorem ggX9_answer_X9_isQuestion : GoodIn wsX9_answer wsX9_isQuestion := goodIn_r _ [8, 9, 10, 11, 7, 12, 13, 14, 15, 16, 17, 18, 19, 20, 21, 22, 23, 24, 25, 26, 27, 28, 29, 30, 31, 32, 33, 34, 35, 36, 37, 38, 39, 40, 41, 42, 43, 44, 45] (by decide +kernel) (by decide +kernel)
set_option maxRecDepth 20000 in
theorem gX9_answer_X9_isQuestion : GoodIn wsX9_answer (wsV RX9 160 RX9 yX9_isQuestion wsX9_isQuestion) := goodIn_app (goodIn_of _ (by decide +kernel)) ggX9_answer_X9_isQuestion
set_option maxRecDepth 20000 in
theorem ggX9_answer_X9_in : GoodIn wsX9_answer wsX9_in := goodIn_r _ [12] (by decide +kernel) (by decide +kernel)
set_option maxRecDepth 20000 in
theorem gX9_answer_X9_in : GoodIn wsX9_answer (va_wsS RX9 93 yX9_in wsX9_in) := goodIn_app (goodIn_of _ (by decide +kernel)) ggX9_answer_X9_in
theorem dX9_answer_0 : decode cX9_answer 0 = .ok (.aload_n 0, 1) := by decide +kernel
theorem dX9_answer_1 : decode cX9_answer 1 = .ok (.iload_n 1, 1) := by decide +kernel
theorem dX9_answer_2 : decode cX9_answer 2 = .ok (.invokevirtual 160, 3) := by decide +kernel
theorem dX9_answer_5 : decode cX9_answer 5 = .ok (.ifCond .eq 14, 3) := by decide +kernel
theorem dX9_answer_8 : decode cX9_answer 8 = .ok (.iload_n 2, 1) := by decide +kernel
theorem dX9_answer_9 : decode cX9_answer 9 = .ok (.iconst 0, 1) := by decide +kernel
theorem dX9_answer_10 : decode cX9_answer 10 = .ok (.sipush 999, 3) := by decide +kernel
theorem dX9_answer_13 : decode cX9_answer 13 = .ok (.invokestatic 93, 3) := by decide +kernel
theorem dX9_answer_16 : decode cX9_answer 16 = .ok (.ifCond .ne 5, 3) := by decide +kernel
theorem dX9_answer_19 : decode cX9_answer 19 = .ok (.iconst (-1), 1) := by decide +kernel
theorem dX9_answer_20 : decode cX9_answer 20 = .ok (.ireturn, 1) := by decide +kernel
theorem dX9_answer_21 : decode cX9_answer 21 = .ok (.aload_n 0, 1) := by decide +kernel
theorem dX9_answer_22 : decode cX9_answer 22 = .ok (.getfield 71, 3) := by decide +kernel
theorem dX9_answer_25 : decode cX9_answer 25 = .ok (.iload_n 1, 1) := by decide +kernel
theorem dX9_answer_26 : decode cX9_answer 26 = .ok (.iaload, 1) := by decide +kernel
theorem dX9_answer_27 : decode cX9_answer 27 = .ok (.ifCond .le 6, 3) := by decide +kernel
theorem dX9_answer_30 : decode cX9_answer 30 = .ok (.bipush (-2), 2) := by decide +kernel
theorem dX9_answer_32 : decode cX9_answer 32 = .ok (.ireturn, 1) := by decide +kernel
theorem dX9_answer_33 : decode cX9_answer 33 = .ok (.aload_n 0, 1) := by decide +kernel
theorem dX9_answer_34 : decode cX9_answer 34 = .ok (.getfield 71, 3) := by decide +kernel
theorem dX9_answer_37 : decode cX9_answer 37 = .ok (.iload_n 1, 1) := by decide +kernel
theorem dX9_answer_38 : decode cX9_answer 38 = .ok (.iload_n 3, 1) := by decide +kernel
theorem dX9_answer_39 : decode cX9_answer 39 = .ok (.ifCond .eq 7, 3) := by decide +kernel
theorem dX9_answer_42 : decode cX9_answer 42 = .ok (.iconst 2, 1) := by decide +kernel
theorem dX9_answer_43 : decode cX9_answer 43 = .ok (.goto 4, 3) := by decide +kernel
theorem dX9_answer_46 : decode cX9_answer 46 = .ok (.iconst 1, 1) := by decide +kernel
theorem dX9_answer_47 : decode cX9_answer 47 = .ok (.iastore, 1) := by decide +kernel
theorem dX9_answer_48 : decode cX9_answer 48 = .ok (.aload_n 0, 1) := by decide +kernel
theorem dX9_answer_49 : decode cX9_answer 49 = .ok (.getfield 74, 3) := by decide +kernel
theorem dX9_answer_52 : decode cX9_answer 52 = .ok (.iload_n 1, 1) := by decide +kernel
theorem dX9_answer_53 : decode cX9_answer 53 = .ok (.iload_n 2, 1) := by decide +kernel
theorem dX9_answer_54 : decode cX9_answer 54 = .ok (.iastore, 1) := by decide +kernel
theorem dX9_answer_55 : decode cX9_answer 55 = .ok (.iconst 0, 1) := by decide +kernel
theorem dX9_answer_56 : decode cX9_answer 56 = .ok (.istore 4, 2) := by decide +kernel
theorem dX9_answer_58 : decode cX9_answer 58 = .ok (.iconst 0, 1) := by decide +kernel
theorem dX9_answer_59 : decode cX9_answer 59 = .ok (.istore 5, 2) := by decide +kernel
theorem dX9_answer_61 : decode cX9_answer 61 = .ok (.iload 5, 2) := by decide +kernel
theorem dX9_answer_63 : decode cX9_answer 63 = .ok (.bipush 6, 2) := by decide +kernel
theorem dX9_answer_65 : decode cX9_answer 65 = .ok (.if_icmp .ge 25, 3) := by decide +kernel
theorem dX9_answer_68 : decode cX9_answer 68 = .ok (.iload 4, 2) := by decide +kernel
theorem dX9_answer_70 : decode cX9_answer 70 = .ok (.aload_n 0, 1) := by decide +kernel
theorem dX9_answer_71 : decode cX9_answer 71 = .ok (.getfield 68, 3) := by decide +kernel
theorem dX9_answer_74 : decode cX9_answer 74 = .ok (.iload_n 1, 1) := by decide +kernel
theorem dX9_answer_75 : decode cX9_answer 75 = .ok (.iaload, 1) := by decide +kernel
theorem dX9_answer_76 : decode cX9_answer 76 = .ok (.iload 5, 2) := by decide +kernel
theorem dX9_answer_78 : decode cX9_answer 78 = .ok (.ishr, 1) := by decide +kernel
theorem dX9_answer_79 : decode cX9_answer 79 = .ok (.iconst 1, 1) := by decide +kernel
theorem dX9_answer_80 : decode cX9_answer 80 = .ok (.iand, 1) := by decide +kernel
theorem dX9_answer_81 : decode cX9_answer 81 = .ok (.iadd, 1) := by decide +kernel
theorem dX9_answer_82 : decode cX9_answer 82 = .ok (.istore 4, 2) := by decide +kernel
theorem dX9_answer_84 : decode cX9_answer 84 = .ok (.iinc 5 1, 3) := by decide +kernel
theorem dX9_answer_87 : decode cX9_answer 87 = .ok (.goto (-26), 3) := by decide +kernel
theorem dX9_answer_90 : decode cX9_answer 90 = .ok (.iload 4, 2) := by decide +kernel
theorem dX9_answer_92 : decode cX9_answer 92 = .ok (.ireturn, 1) := by decide +kernel
set_option maxRecDepth 20000 in
theorem ggX9_hear_X9_isBidder : GoodIn wsX9_hear wsX9_isBidder := goodIn_r _ [8, 9, 10, 7, 11] (by decide +kernel) (by decide +kernel)
set_option maxRecDepth 20000 in
theorem gX9_hear_X9_isBidder : GoodIn wsX9_hear (va_wsS RX9 113 yX9_isBidder wsX9_isBidder) := goodIn_app (goodIn_of _ (by decide +kernel)) ggX9_hear_X9_isBidder
set_option maxRecDepth 20000 in
theorem ggX9_hear_X9_isQuestion : GoodIn wsX9_hear wsX9_isQuestion := goodIn_r _ [15, 16, 9, 10, 7, 11, 28, 29, 30, 31, 32, 33, 34, 35, 36, 37, 38, 39, 40, 41, 42, 43, 44, 45, 46, 47, 48, 49, 50, 51, 52, 53, 54, 55, 56, 57, 58, 59, 60] (by decide +kernel) (by decide +kernel)
set_option maxRecDepth 20000 in
theorem gX9_hear_X9_isQuestion : GoodIn wsX9_hear (wsV RX9 160 RX9 yX9_isQuestion wsX9_isQuestion) := goodIn_app (goodIn_of _ (by decide +kernel)) ggX9_hear_X9_isQuestion
set_option maxRecDepth 20000 in
theorem ggX9_hear_X9_sees : GoodIn wsX9_hear wsX9_sees := goodIn_r _ [20, 21, 22, 23, 24, 25, 26, 27, 28, 29, 30, 31, 32, 33, 34, 35, 36, 37, 38, 39, 40, 41, 42, 43, 44, 45, 46, 47, 48, 49, 50, 51, 52, 53, 54, 55, 56, 57, 58, 59, 60] (by decide +kernel) (by decide +kernel)
set_option maxRecDepth 20000 in
theorem gX9_hear_X9_sees : GoodIn wsX9_hear (wsV RX9 124 RX9 yX9_sees wsX9_sees) := goodIn_app (goodIn_of _ (by decide +kernel)) ggX9_hear_X9_sees
theorem dX9_hear_0 : decode cX9_hear 0 = .ok (.iload_n 1, 1) := by decide +kernel
theorem dX9_hear_1 : decode cX9_hear 1 = .ok (.invokestatic 113, 3) := by decide +kernel
theorem dX9_hear_4 : decode cX9_hear 4 = .ok (.ifCond .eq 11, 3) := by decide +kernel
theorem dX9_hear_7 : decode cX9_hear 7 = .ok (.aload_n 0, 1) := by decide +kernel
theorem dX9_hear_8 : decode cX9_hear 8 = .ok (.iload_n 2, 1) := by decide +kernel
theorem dX9_hear_9 : decode cX9_hear 9 = .ok (.invokevirtual 160, 3) := by decide +kernel
theorem dX9_hear_12 : decode cX9_hear 12 = .ok (.ifCond .ne 5, 3) := by decide +kernel
theorem dX9_hear_15 : decode cX9_hear 15 = .ok (.iconst (-1), 1) := by decide +kernel
theorem dX9_hear_16 : decode cX9_hear 16 = .ok (.ireturn, 1) := by decide +kernel
theorem dX9_hear_17 : decode cX9_hear 17 = .ok (.aload_n 0, 1) := by decide +kernel
theorem dX9_hear_18 : decode cX9_hear 18 = .ok (.iload_n 1, 1) := by decide +kernel
theorem dX9_hear_19 : decode cX9_hear 19 = .ok (.aload_n 0, 1) := by decide +kernel
theorem dX9_hear_20 : decode cX9_hear 20 = .ok (.getfield 62, 3) := by decide +kernel
theorem dX9_hear_23 : decode cX9_hear 23 = .ok (.iload_n 2, 1) := by decide +kernel
theorem dX9_hear_24 : decode cX9_hear 24 = .ok (.iaload, 1) := by decide +kernel
theorem dX9_hear_25 : decode cX9_hear 25 = .ok (.invokevirtual 124, 3) := by decide +kernel
theorem dX9_hear_28 : decode cX9_hear 28 = .ok (.ifCond .ne 6, 3) := by decide +kernel
theorem dX9_hear_31 : decode cX9_hear 31 = .ok (.bipush (-4), 2) := by decide +kernel
theorem dX9_hear_33 : decode cX9_hear 33 = .ok (.ireturn, 1) := by decide +kernel
theorem dX9_hear_34 : decode cX9_hear 34 = .ok (.aload_n 0, 1) := by decide +kernel
theorem dX9_hear_35 : decode cX9_hear 35 = .ok (.getfield 71, 3) := by decide +kernel
theorem dX9_hear_38 : decode cX9_hear 38 = .ok (.iload_n 2, 1) := by decide +kernel
theorem dX9_hear_39 : decode cX9_hear 39 = .ok (.iaload, 1) := by decide +kernel
theorem dX9_hear_40 : decode cX9_hear 40 = .ok (.ifCond .ne 6, 3) := by decide +kernel
theorem dX9_hear_43 : decode cX9_hear 43 = .ok (.bipush (-2), 2) := by decide +kernel
theorem dX9_hear_45 : decode cX9_hear 45 = .ok (.ireturn, 1) := by decide +kernel
theorem dX9_hear_46 : decode cX9_hear 46 = .ok (.aload_n 0, 1) := by decide +kernel
theorem dX9_hear_47 : decode cX9_hear 47 = .ok (.getfield 71, 3) := by decide +kernel
theorem dX9_hear_50 : decode cX9_hear 50 = .ok (.iload_n 2, 1) := by decide +kernel
theorem dX9_hear_51 : decode cX9_hear 51 = .ok (.iaload, 1) := by decide +kernel
theorem dX9_hear_52 : decode cX9_hear 52 = .ok (.iconst 2, 1) := by decide +kernel
theorem dX9_hear_53 : decode cX9_hear 53 = .ok (.if_icmp .eq 17, 3) := by decide +kernel
theorem dX9_hear_56 : decode cX9_hear 56 = .ok (.aload_n 0, 1) := by decide +kernel
theorem dX9_hear_57 : decode cX9_hear 57 = .ok (.getfield 68, 3) := by decide +kernel
theorem dX9_hear_60 : decode cX9_hear 60 = .ok (.iload_n 2, 1) := by decide +kernel
theorem dX9_hear_61 : decode cX9_hear 61 = .ok (.iaload, 1) := by decide +kernel
theorem dX9_hear_62 : decode cX9_hear 62 = .ok (.iload_n 1, 1) := by decide +kernel
theorem dX9_hear_63 : decode cX9_hear 63 = .ok (.ishr, 1) := by decide +kernel
theorem dX9_hear_64 : decode cX9_hear 64 = .ok (.iconst 1, 1) := by decide +kernel
theorem dX9_hear_65 : decode cX9_hear 65 = .ok (.iand, 1) := by decide +kernel
theorem dX9_hear_66 : decode cX9_hear 66 = .ok (.iconst 1, 1) := by decide +kernel
theorem dX9_hear_67 : decode cX9_hear 67 = .ok (.if_icmp .ne 12, 3) := by decide +kernel
theorem dX9_hear_70 : decode cX9_hear 70 = .ok (.aload_n 0, 1) := by decide +kernel
theorem dX9_hear_71 : decode cX9_hear 71 = .ok (.getfield 74, 3) := by decide +kernel
theorem dX9_hear_74 : decode cX9_hear 74 = .ok (.iload_n 2, 1) := by decide +kernel
theorem dX9_hear_75 : decode cX9_hear 75 = .ok (.iaload, 1) := by decide +kernel
theorem dX9_hear_76 : decode cX9_hear 76 = .ok (.goto 5, 3) := by decide +kernel
theorem dX9_hear_79 : decode cX9_hear 79 = .ok (.bipush (-4), 2) := by decide +kernel
theorem dX9_hear_81 : decode cX9_hear 81 = .ok (.ireturn, 1) := by decide +kernel
set_option maxRecDepth 20000 in
theorem ggX9_question_X9_isQuestion : GoodIn wsX9_question wsX9_isQuestion := goodIn_r _ [9, 10, 11, 12, 8, 13, 14, 15, 16, 17, 18, 19, 20, 21, 22, 23, 24, 25, 26, 27, 28, 29, 30, 31, 32, 33, 34, 35, 36, 37, 38, 39, 40, 41, 42, 43, 44, 45, 46] (by decide +kernel) (by decide +kernel)
set_option maxRecDepth 20000 in
theorem gX9_question_X9_isQuestion : GoodIn wsX9_question (wsV RX9 160 RX9 yX9_isQuestion wsX9_isQuestion) := goodIn_app (goodIn_of _ (by decide +kernel)) ggX9_question_X9_isQuestion
theorem dX9_question_0 : decode cX9_question 0 = .ok (.aload_n 0, 1) := by decide +kernel
theorem dX9_question_1 : decode cX9_question 1 = .ok (.iload_n 1, 1) := by decide +kernel
theorem dX9_question_2 : decode cX9_question 2 = .ok (.invokevirtual 160, 3) := by decide +kernel
theorem dX9_question_5 : decode cX9_question 5 = .ok (.ifCond .ne 5, 3) := by decide +kernel
theorem dX9_question_8 : decode cX9_question 8 = .ok (.iconst (-1), 1) := by decide +kernel
theorem dX9_question_9 : decode cX9_question 9 = .ok (.ireturn, 1) := by decide +kernel
theorem dX9_question_10 : decode cX9_question 10 = .ok (.iload_n 2, 1) := by decide +kernel
theorem dX9_question_11 : decode cX9_question 11 = .ok (.tableswitch 57 0 3 #[29, 36, 43, 50], 29) := by decide +kernel
theorem dX9_question_40 : decode cX9_question 40 = .ok (.aload_n 0, 1) := by decide +kernel
theorem dX9_question_41 : decode cX9_question 41 = .ok (.getfield 62, 3) := by decide +kernel
theorem dX9_question_44 : decode cX9_question 44 = .ok (.iload_n 1, 1) := by decide +kernel
theorem dX9_question_45 : decode cX9_question 45 = .ok (.iaload, 1) := by decide +kernel
theorem dX9_question_46 : decode cX9_question 46 = .ok (.ireturn, 1) := by decide +kernel
theorem dX9_question_47 : decode cX9_question 47 = .ok (.aload_n 0, 1) := by decide +kernel
theorem dX9_question_48 : decode cX9_question 48 = .ok (.getfield 65, 3) := by decide +kernel
theorem dX9_question_51 : decode cX9_question 51 = .ok (.iload_n 1, 1) := by decide +kernel
theorem dX9_question_52 : decode cX9_question 52 = .ok (.iaload, 1) := by decide +kernel
theorem dX9_question_53 : decode cX9_question 53 = .ok (.ireturn, 1) := by decide +kernel
theorem dX9_question_54 : decode cX9_question 54 = .ok (.aload_n 0, 1) := by decide +kernel
theorem dX9_question_55 : decode cX9_question 55 = .ok (.getfield 68, 3) := by decide +kernel
theorem dX9_question_58 : decode cX9_question 58 = .ok (.iload_n 1, 1) := by decide +kernel
theorem dX9_question_59 : decode cX9_question 59 = .ok (.iaload, 1) := by decide +kernel
theorem dX9_question_60 : decode cX9_question 60 = .ok (.ireturn, 1) := by decide +kernel
theorem dX9_question_61 : decode cX9_question 61 = .ok (.aload_n 0, 1) := by decide +kernel
theorem dX9_question_62 : decode cX9_question 62 = .ok (.getfield 71, 3) := by decide +kernel
theorem dX9_question_65 : decode cX9_question 65 = .ok (.iload_n 1, 1) := by decide +kernel
theorem dX9_question_66 : decode cX9_question 66 = .ok (.iaload, 1) := by decide +kernel
theorem dX9_question_67 : decode cX9_question 67 = .ok (.ireturn, 1) := by decide +kernel
theorem dX9_question_68 : decode cX9_question 68 = .ok (.iconst (-1), 1) := by decide +kernel
theorem dX9_question_69 : decode cX9_question 69 = .ok (.ireturn, 1) := by decide +kernel
theorem dX9_count_0 : decode cX9_count 0 = .ok (.iload_n 1, 1) := by decide +kernel
theorem dX9_count_1 : decode cX9_count 1 = .ok (.tableswitch 69 0 5 #[39, 44, 49, 54, 59, 64], 39) := by decide +kernel
theorem dX9_count_40 : decode cX9_count 40 = .ok (.aload_n 0, 1) := by decide +kernel
theorem dX9_count_41 : decode cX9_count 41 = .ok (.getfield 90, 3) := by decide +kernel
theorem dX9_count_44 : decode cX9_count 44 = .ok (.ireturn, 1) := by decide +kernel
theorem dX9_count_45 : decode cX9_count 45 = .ok (.aload_n 0, 1) := by decide +kernel
theorem dX9_count_46 : decode cX9_count 46 = .ok (.getfield 86, 3) := by decide +kernel
theorem dX9_count_49 : decode cX9_count 49 = .ok (.ireturn, 1) := by decide +kernel
theorem dX9_count_50 : decode cX9_count 50 = .ok (.aload_n 0, 1) := by decide +kernel
theorem dX9_count_51 : decode cX9_count 51 = .ok (.getfield 101, 3) := by decide +kernel
theorem dX9_count_54 : decode cX9_count 54 = .ok (.ireturn, 1) := by decide +kernel
theorem dX9_count_55 : decode cX9_count 55 = .ok (.aload_n 0, 1) := by decide +kernel
theorem dX9_count_56 : decode cX9_count 56 = .ok (.getfield 134, 3) := by decide +kernel
theorem dX9_count_59 : decode cX9_count 59 = .ok (.ireturn, 1) := by decide +kernel
theorem dX9_count_60 : decode cX9_count 60 = .ok (.aload_n 0, 1) := by decide +kernel
theorem dX9_count_61 : decode cX9_count 61 = .ok (.getfield 137, 3) := by decide +kernel
theorem dX9_count_64 : decode cX9_count 64 = .ok (.ireturn, 1) := by decide +kernel
theorem dX9_count_65 : decode cX9_count 65 = .ok (.aload_n 0, 1) := by decide +kernel
theorem dX9_count_66 : decode cX9_count 66 = .ok (.getfield 153, 3) := by decide +kernel
theorem dX9_count_69 : decode cX9_count 69 = .ok (.ireturn, 1) := by decide +kernel
theorem dX9_count_70 : decode cX9_count 70 = .ok (.iconst (-1), 1) := by decide +kernel
theorem dX9_count_71 : decode cX9_count 71 = .ok (.ireturn, 1) := by decide +kernel
theorem dX9_trace_0 : decode cX9_trace 0 = .ok (.aload_n 0, 1) := by decide +kernel
theorem dX9_trace_1 : decode cX9_trace 1 = .ok (.getfield 116, 3) := by decide +kernel
theorem dX9_trace_4 : decode cX9_trace 4 = .ok (.lreturn, 1) := by decide +kernel
theorem dJ6_bitCount_0f7a4_0 : decode cJ6_bitCount_0f7a4 0 = .ok (.iload_n 0, 1) := by decide +kernel
theorem dJ6_bitCount_0f7a4_1 : decode cJ6_bitCount_0f7a4 1 = .ok (.iload_n 0, 1) := by decide +kernel
theorem dJ6_bitCount_0f7a4_2 : decode cJ6_bitCount_0f7a4 2 = .ok (.iconst 1, 1) := by decide +kernel
theorem dJ6_bitCount_0f7a4_3 : decode cJ6_bitCount_0f7a4 3 = .ok (.iushr, 1) := by decide +kernel
theorem dJ6_bitCount_0f7a4_4 : decode cJ6_bitCount_0f7a4 4 = .ok (.ldc_w 265, 3) := by decide +kernel
theorem dJ6_bitCount_0f7a4_7 : decode cJ6_bitCount_0f7a4 7 = .ok (.iand, 1) := by decide +kernel
theorem dJ6_bitCount_0f7a4_8 : decode cJ6_bitCount_0f7a4 8 = .ok (.isub, 1) := by decide +kernel
theorem dJ6_bitCount_0f7a4_9 : decode cJ6_bitCount_0f7a4 9 = .ok (.istore_n 0, 1) := by decide +kernel
theorem dJ6_bitCount_0f7a4_10 : decode cJ6_bitCount_0f7a4 10 = .ok (.iload_n 0, 1) := by decide +kernel
theorem dJ6_bitCount_0f7a4_11 : decode cJ6_bitCount_0f7a4 11 = .ok (.ldc_w 266, 3) := by decide +kernel
theorem dJ6_bitCount_0f7a4_14 : decode cJ6_bitCount_0f7a4 14 = .ok (.iand, 1) := by decide +kernel
theorem dJ6_bitCount_0f7a4_15 : decode cJ6_bitCount_0f7a4 15 = .ok (.iload_n 0, 1) := by decide +kernel
theorem dJ6_bitCount_0f7a4_16 : decode cJ6_bitCount_0f7a4 16 = .ok (.iconst 2, 1) := by decide +kernel
theorem dJ6_bitCount_0f7a4_17 : decode cJ6_bitCount_0f7a4 17 = .ok (.iushr, 1) := by decide +kernel
theorem dJ6_bitCount_0f7a4_18 : decode cJ6_bitCount_0f7a4 18 = .ok (.ldc_w 266, 3) := by decide +kernel
theorem dJ6_bitCount_0f7a4_21 : decode cJ6_bitCount_0f7a4 21 = .ok (.iand, 1) := by decide +kernel
theorem dJ6_bitCount_0f7a4_22 : decode cJ6_bitCount_0f7a4 22 = .ok (.iadd, 1) := by decide +kernel
theorem dJ6_bitCount_0f7a4_23 : decode cJ6_bitCount_0f7a4 23 = .ok (.istore_n 0, 1) := by decide +kernel
theorem dJ6_bitCount_0f7a4_24 : decode cJ6_bitCount_0f7a4 24 = .ok (.iload_n 0, 1) := by decide +kernel
theorem dJ6_bitCount_0f7a4_25 : decode cJ6_bitCount_0f7a4 25 = .ok (.iload_n 0, 1) := by decide +kernel
theorem dJ6_bitCount_0f7a4_26 : decode cJ6_bitCount_0f7a4 26 = .ok (.iconst 4, 1) := by decide +kernel
theorem dJ6_bitCount_0f7a4_27 : decode cJ6_bitCount_0f7a4 27 = .ok (.iushr, 1) := by decide +kernel
theorem dJ6_bitCount_0f7a4_28 : decode cJ6_bitCount_0f7a4 28 = .ok (.iadd, 1) := by decide +kernel
theorem dJ6_bitCount_0f7a4_29 : decode cJ6_bitCount_0f7a4 29 = .ok (.ldc_w 267, 3) := by decide +kernel
theorem dJ6_bitCount_0f7a4_32 : decode cJ6_bitCount_0f7a4 32 = .ok (.iand, 1) := by decide +kernel
theorem dJ6_bitCount_0f7a4_33 : decode cJ6_bitCount_0f7a4 33 = .ok (.istore_n 0, 1) := by decide +kernel
theorem dJ6_bitCount_0f7a4_34 : decode cJ6_bitCount_0f7a4 34 = .ok (.iload_n 0, 1) := by decide +kernel
theorem dJ6_bitCount_0f7a4_35 : decode cJ6_bitCount_0f7a4 35 = .ok (.iload_n 0, 1) := by decide +kernel
theorem dJ6_bitCount_0f7a4_36 : decode cJ6_bitCount_0f7a4 36 = .ok (.bipush 8, 2) := by decide +kernel
theorem dJ6_bitCount_0f7a4_38 : decode cJ6_bitCount_0f7a4 38 = .ok (.iushr, 1) := by decide +kernel
theorem dJ6_bitCount_0f7a4_39 : decode cJ6_bitCount_0f7a4 39 = .ok (.iadd, 1) := by decide +kernel
theorem dJ6_bitCount_0f7a4_40 : decode cJ6_bitCount_0f7a4 40 = .ok (.istore_n 0, 1) := by decide +kernel
theorem dJ6_bitCount_0f7a4_41 : decode cJ6_bitCount_0f7a4 41 = .ok (.iload_n 0, 1) := by decide +kernel
theorem dJ6_bitCount_0f7a4_42 : decode cJ6_bitCount_0f7a4 42 = .ok (.iload_n 0, 1) := by decide +kernel
theorem dJ6_bitCount_0f7a4_43 : decode cJ6_bitCount_0f7a4 43 = .ok (.bipush 16, 2) := by decide +kernel
theorem dJ6_bitCount_0f7a4_45 : decode cJ6_bitCount_0f7a4 45 = .ok (.iushr, 1) := by decide +kernel
theorem dJ6_bitCount_0f7a4_46 : decode cJ6_bitCount_0f7a4 46 = .ok (.iadd, 1) := by decide +kernel
theorem dJ6_bitCount_0f7a4_47 : decode cJ6_bitCount_0f7a4 47 = .ok (.istore_n 0, 1) := by decide +kernel
theorem dJ6_bitCount_0f7a4_48 : decode cJ6_bitCount_0f7a4 48 = .ok (.iload_n 0, 1) := by decide +kernel

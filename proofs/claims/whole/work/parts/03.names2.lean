set_option maxRecDepth 20000 in
theorem gX0_init_X2_init : GoodIn wsX0_init (wsX2_init) := ggX0_init_X2_init
theorem dX0_init_0 : decode cX0_init 0 = .ok (.aload_n 0, 1) := by decide +kernel
theorem dX0_init_1 : decode cX0_init 1 = .ok (.iload_n 1, 1) := by decide +kernel
theorem dX0_init_2 : decode cX0_init 2 = .ok (.invokespecial 3, 3) := by decide +kernel
theorem dX0_init_5 : decode cX0_init 5 = .ok (.aload_n 0, 1) := by decide +kernel
theorem dX0_init_6 : decode cX0_init 6 = .ok (.iload_n 2, 1) := by decide +kernel
theorem dX0_init_7 : decode cX0_init 7 = .ok (.putfield 9, 3) := by decide +kernel
theorem dX0_init_10 : decode cX0_init 10 = .ok (.return_, 1) := by decide +kernel
theorem dX0_kind_0 : decode cX0_kind 0 = .ok (.iconst 1, 1) := by decide +kernel
theorem dX0_kind_1 : decode cX0_kind 1 = .ok (.ireturn, 1) := by decide +kernel
theorem dX0_letGoTick_0 : decode cX0_letGoTick 0 = .ok (.aload_n 0, 1) := by decide +kernel
theorem dX0_letGoTick_1 : decode cX0_letGoTick 1 = .ok (.getfield 9, 3) := by decide +kernel
theorem dX0_letGoTick_4 : decode cX0_letGoTick 4 = .ok (.ireturn, 1) := by decide +kernel
set_option maxRecDepth 20000 in
theorem ggX0_isOpenTo_X2_isOpenTo : GoodIn wsX0_isOpenTo wsX2_isOpenTo := goodIn_r _ [7, 8, 9, 10, 11, 12, 13, 14, 15, 16, 17, 18, 19, 20, 21, 22, 23, 24, 25, 26, 27, 28, 29, 30, 31, 32, 33, 34] (by decide +kernel) (by decide +kernel)
set_option maxRecDepth 20000 in
theorem gX0_isOpenTo_X2_isOpenTo_s15 : GoodIn wsX0_isOpenTo (va_wsSU RX0 15 yX2_isOpenTo wsX2_isOpenTo) := goodIn_app (goodIn_of _ (by decide +kernel)) ggX0_isOpenTo_X2_isOpenTo
theorem dX0_isOpenTo_0 : decode cX0_isOpenTo 0 = .ok (.aload_n 0, 1) := by decide +kernel
theorem dX0_isOpenTo_1 : decode cX0_isOpenTo 1 = .ok (.iload_n 1, 1) := by decide +kernel
theorem dX0_isOpenTo_2 : decode cX0_isOpenTo 2 = .ok (.aload_n 2, 1) := by decide +kernel
theorem dX0_isOpenTo_3 : decode cX0_isOpenTo 3 = .ok (.iload_n 3, 1) := by decide +kernel
theorem dX0_isOpenTo_4 : decode cX0_isOpenTo 4 = .ok (.invokespecial 15, 3) := by decide +kernel
theorem dX0_isOpenTo_7 : decode cX0_isOpenTo 7 = .ok (.ifCond .eq 15, 3) := by decide +kernel
theorem dX0_isOpenTo_10 : decode cX0_isOpenTo 10 = .ok (.iload_n 3, 1) := by decide +kernel
theorem dX0_isOpenTo_11 : decode cX0_isOpenTo 11 = .ok (.aload_n 0, 1) := by decide +kernel
theorem dX0_isOpenTo_12 : decode cX0_isOpenTo 12 = .ok (.getfield 9, 3) := by decide +kernel
theorem dX0_isOpenTo_15 : decode cX0_isOpenTo 15 = .ok (.if_icmp .lt 7, 3) := by decide +kernel
theorem dX0_isOpenTo_18 : decode cX0_isOpenTo 18 = .ok (.iconst 1, 1) := by decide +kernel
theorem dX0_isOpenTo_19 : decode cX0_isOpenTo 19 = .ok (.goto 4, 3) := by decide +kernel
theorem dX0_isOpenTo_22 : decode cX0_isOpenTo 22 = .ok (.iconst 0, 1) := by decide +kernel
theorem dX0_isOpenTo_23 : decode cX0_isOpenTo 23 = .ok (.ireturn, 1) := by decide +kernel
set_option maxRecDepth 20000 in
theorem ggX0_bodiesAsked_X2_bodiesAsked : GoodIn wsX0_bodiesAsked wsX2_bodiesAsked := goodIn_r _ [6] (by decide +kernel) (by decide +kernel)
set_option maxRecDepth 20000 in
theorem gX0_bodiesAsked_X2_bodiesAsked_s19 : GoodIn wsX0_bodiesAsked (va_wsSU RX0 19 yX2_bodiesAsked wsX2_bodiesAsked) := goodIn_app (goodIn_of _ (by decide +kernel)) ggX0_bodiesAsked_X2_bodiesAsked
theorem dX0_bodiesAsked_0 : decode cX0_bodiesAsked 0 = .ok (.aload_n 0, 1) := by decide +kernel
theorem dX0_bodiesAsked_1 : decode cX0_bodiesAsked 1 = .ok (.invokespecial 19, 3) := by decide +kernel
theorem dX0_bodiesAsked_4 : decode cX0_bodiesAsked 4 = .ok (.bipush 10, 2) := by decide +kernel
theorem dX0_bodiesAsked_6 : decode cX0_bodiesAsked 6 = .ok (.iadd, 1) := by decide +kernel
theorem dX0_bodiesAsked_7 : decode cX0_bodiesAsked 7 = .ok (.ireturn, 1) := by decide +kernel
set_option maxRecDepth 20000 in
theorem ggX1_init_X2_init : GoodIn wsX1_init wsX2_init := goodIn_r _ [4, 5, 6, 7, 8, 9, 10, 11, 12, 13, 14, 15, 16, 17, 18, 19, 20, 21, 22, 23] (by decide +kernel) (by decide +kernel)
set_option maxRecDepth 20000 in
theorem gX1_init_X2_init : GoodIn wsX1_init (wsX2_init) := ggX1_init_X2_init
theorem dX1_init_0 : decode cX1_init 0 = .ok (.aload_n 0, 1) := by decide +kernel
theorem dX1_init_1 : decode cX1_init 1 = .ok (.iload_n 1, 1) := by decide +kernel
theorem dX1_init_2 : decode cX1_init 2 = .ok (.invokespecial 3, 3) := by decide +kernel
theorem dX1_init_5 : decode cX1_init 5 = .ok (.return_, 1) := by decide +kernel
theorem dX1_kind_0 : decode cX1_kind 0 = .ok (.iconst 2, 1) := by decide +kernel
theorem dX1_kind_1 : decode cX1_kind 1 = .ok (.ireturn, 1) := by decide +kernel
set_option maxRecDepth 20000 in
theorem ggX1_bodiesAsked_X2_bodiesAsked : GoodIn wsX1_bodiesAsked wsX2_bodiesAsked := goodIn_r _ [6] (by decide +kernel) (by decide +kernel)
set_option maxRecDepth 20000 in
theorem gX1_bodiesAsked_X2_bodiesAsked_s9 : GoodIn wsX1_bodiesAsked (va_wsSU RX1 9 yX2_bodiesAsked wsX2_bodiesAsked) := goodIn_app (goodIn_of _ (by decide +kernel)) ggX1_bodiesAsked_X2_bodiesAsked
theorem dX1_bodiesAsked_0 : decode cX1_bodiesAsked 0 = .ok (.aload_n 0, 1) := by decide +kernel
theorem dX1_bodiesAsked_1 : decode cX1_bodiesAsked 1 = .ok (.invokespecial 9, 3) := by decide +kernel
theorem dX1_bodiesAsked_4 : decode cX1_bodiesAsked 4 = .ok (.bipush 100, 2) := by decide +kernel
theorem dX1_bodiesAsked_6 : decode cX1_bodiesAsked 6 = .ok (.iadd, 1) := by decide +kernel
theorem dX1_bodiesAsked_7 : decode cX1_bodiesAsked 7 = .ok (.ireturn, 1) := by decide +kernel
set_option maxRecDepth 20000 in
theorem ggX1_copyFor_X5_empty : GoodIn wsX1_copyFor wsX5_empty := goodIn_r _ [5, 6, 38, 39] (by decide +kernel) (by decide +kernel)
set_option maxRecDepth 20000 in
theorem gX1_copyFor_X5_empty : GoodIn wsX1_copyFor (wsV RX1 13 RX5 yX5_empty wsX5_empty) := goodIn_app (goodIn_of _ (by decide +kernel)) ggX1_copyFor_X5_empty
set_option maxRecDepth 20000 in
theorem ggX1_copyFor_X7_length : GoodIn wsX1_copyFor wsX7_length := goodIn_r _ [11, 12, 13, 14, 15, 4, 16, 6, 40, 41, 38, 39] (by decide +kernel) (by decide +kernel)
set_option maxRecDepth 20000 in
theorem gX1_copyFor_X7_length : GoodIn wsX1_copyFor (wsV RX1 19 RX7 yX7_length wsX7_length) := goodIn_app (goodIn_of _ (by decide +kernel)) ggX1_copyFor_X7_length
set_option maxRecDepth 20000 in
theorem ggX1_copyFor_X7_plain : GoodIn wsX1_copyFor wsX7_plain := goodIn_r _ [20, 12, 21, 22, 23, 10, 24, 25, 26, 27, 28, 29, 30, 31, 4, 32, 6, 33, 40, 41, 38, 39] (by decide +kernel) (by decide +kernel)
set_option maxRecDepth 20000 in
theorem gX1_copyFor_X7_plain : GoodIn wsX1_copyFor (wsV RX1 24 RX7 yX7_plain wsX7_plain) := goodIn_app (goodIn_of _ (by decide +kernel)) ggX1_copyFor_X7_plain
set_option maxRecDepth 20000 in
theorem ggX1_copyFor_X5_put : GoodIn wsX1_copyFor wsX5_put := goodIn_r _ [37, 6, 33, 26, 27, 28, 38, 39] (by decide +kernel) (by decide +kernel)
set_option maxRecDepth 20000 in
theorem gX1_copyFor_X5_put : GoodIn wsX1_copyFor (wsV RX1 28 RX5 yX5_put wsX5_put) := goodIn_app (goodIn_of _ (by decide +kernel)) ggX1_copyFor_X5_put
theorem dX1_copyFor_0 : decode cX1_copyFor 0 = .ok (.aload_n 3, 1) := by decide +kernel
theorem dX1_copyFor_1 : decode cX1_copyFor 1 = .ok (.invokevirtual 13, 3) := by decide +kernel
theorem dX1_copyFor_4 : decode cX1_copyFor 4 = .ok (.iconst 0, 1) := by decide +kernel
theorem dX1_copyFor_5 : decode cX1_copyFor 5 = .ok (.istore 4, 2) := by decide +kernel
theorem dX1_copyFor_7 : decode cX1_copyFor 7 = .ok (.iconst 0, 1) := by decide +kernel
theorem dX1_copyFor_8 : decode cX1_copyFor 8 = .ok (.istore 5, 2) := by decide +kernel
theorem dX1_copyFor_10 : decode cX1_copyFor 10 = .ok (.iload 5, 2) := by decide +kernel
theorem dX1_copyFor_12 : decode cX1_copyFor 12 = .ok (.aload_n 2, 1) := by decide +kernel
theorem dX1_copyFor_13 : decode cX1_copyFor 13 = .ok (.invokevirtual 19, 3) := by decide +kernel
theorem dX1_copyFor_16 : decode cX1_copyFor 16 = .ok (.if_icmp .ge 51, 3) := by decide +kernel
theorem dX1_copyFor_19 : decode cX1_copyFor 19 = .ok (.aload_n 2, 1) := by decide +kernel
theorem dX1_copyFor_20 : decode cX1_copyFor 20 = .ok (.iload 5, 2) := by decide +kernel
theorem dX1_copyFor_22 : decode cX1_copyFor 22 = .ok (.invokevirtual 24, 3) := by decide +kernel
theorem dX1_copyFor_25 : decode cX1_copyFor 25 = .ok (.istore 6, 2) := by decide +kernel
theorem dX1_copyFor_27 : decode cX1_copyFor 27 = .ok (.aload_n 3, 1) := by decide +kernel
theorem dX1_copyFor_28 : decode cX1_copyFor 28 = .ok (.iload 6, 2) := by decide +kernel
theorem dX1_copyFor_30 : decode cX1_copyFor 30 = .ok (.invokevirtual 28, 3) := by decide +kernel
theorem dX1_copyFor_33 : decode cX1_copyFor 33 = .ok (.iload 6, 2) := by decide +kernel
theorem dX1_copyFor_35 : decode cX1_copyFor 35 = .ok (.bipush 32, 2) := by decide +kernel
theorem dX1_copyFor_37 : decode cX1_copyFor 37 = .ok (.if_icmp .ne 24, 3) := by decide +kernel
theorem dX1_copyFor_40 : decode cX1_copyFor 40 = .ok (.iload_n 1, 1) := by decide +kernel
theorem dX1_copyFor_41 : decode cX1_copyFor 41 = .ok (.iload 4, 2) := by decide +kernel
theorem dX1_copyFor_43 : decode cX1_copyFor 43 = .ok (.iconst 3, 1) := by decide +kernel
theorem dX1_copyFor_44 : decode cX1_copyFor 44 = .ok (.irem, 1) := by decide +kernel
theorem dX1_copyFor_45 : decode cX1_copyFor 45 = .ok (.ishr, 1) := by decide +kernel
theorem dX1_copyFor_46 : decode cX1_copyFor 46 = .ok (.iconst 1, 1) := by decide +kernel
theorem dX1_copyFor_47 : decode cX1_copyFor 47 = .ok (.iand, 1) := by decide +kernel
theorem dX1_copyFor_48 : decode cX1_copyFor 48 = .ok (.iconst 1, 1) := by decide +kernel
theorem dX1_copyFor_49 : decode cX1_copyFor 49 = .ok (.if_icmp .ne 9, 3) := by decide +kernel
theorem dX1_copyFor_52 : decode cX1_copyFor 52 = .ok (.aload_n 3, 1) := by decide +kernel
theorem dX1_copyFor_53 : decode cX1_copyFor 53 = .ok (.bipush 32, 2) := by decide +kernel
theorem dX1_copyFor_55 : decode cX1_copyFor 55 = .ok (.invokevirtual 28, 3) := by decide +kernel
theorem dX1_copyFor_58 : decode cX1_copyFor 58 = .ok (.iinc 4 1, 3) := by decide +kernel
theorem dX1_copyFor_61 : decode cX1_copyFor 61 = .ok (.iinc 5 1, 3) := by decide +kernel
theorem dX1_copyFor_64 : decode cX1_copyFor 64 = .ok (.goto (-54), 3) := by decide +kernel
theorem dX1_copyFor_67 : decode cX1_copyFor 67 = .ok (.return_, 1) := by decide +kernel
theorem dX2_init_0 : decode cX2_init 0 = .ok (.aload_n 0, 1) := by decide +kernel
theorem dX2_init_1 : decode cX2_init 1 = .ok (.invokespecial 3, 3) := by decide +kernel
theorem dX2_init_4 : decode cX2_init 4 = .ok (.aload_n 0, 1) := by decide +kernel
theorem dX2_init_5 : decode cX2_init 5 = .ok (.iload_n 1, 1) := by decide +kernel
theorem dX2_init_6 : decode cX2_init 6 = .ok (.putfield 9, 3) := by decide +kernel
theorem dX2_init_9 : decode cX2_init 9 = .ok (.aload_n 0, 1) := by decide +kernel
theorem dX2_init_10 : decode cX2_init 10 = .ok (.iconst 4, 1) := by decide +kernel
theorem dX2_init_11 : decode cX2_init 11 = .ok (.anewarray 15, 3) := by decide +kernel
theorem dX2_init_14 : decode cX2_init 14 = .ok (.putfield 17, 3) := by decide +kernel
theorem dX2_init_17 : decode cX2_init 17 = .ok (.return_, 1) := by decide +kernel
theorem dX2_kind_0 : decode cX2_kind 0 = .ok (.iconst 0, 1) := by decide +kernel
theorem dX2_kind_1 : decode cX2_kind 1 = .ok (.ireturn, 1) := by decide +kernel
theorem dX2_letGoTick_0 : decode cX2_letGoTick 0 = .ok (.iconst 0, 1) := by decide +kernel
theorem dX2_letGoTick_1 : decode cX2_letGoTick 1 = .ok (.ireturn, 1) := by decide +kernel
set_option maxRecDepth 20000 in
theorem ggX2_isOpenTo_X4_cover : GoodIn wsX2_isOpenTo wsX4_cover := goodIn_r _ [7, 8, 9, 10, 11, 12, 26, 27] (by decide +kernel) (by decide +kernel)
set_option maxRecDepth 20000 in
theorem gX2_isOpenTo_X4_cover : GoodIn wsX2_isOpenTo (wsV RX2 25 RX4 yX4_cover wsX4_cover) := goodIn_app (goodIn_of _ (by decide +kernel)) ggX2_isOpenTo_X4_cover
theorem dX2_isOpenTo_0 : decode cX2_isOpenTo 0 = .ok (.aload_n 0, 1) := by decide +kernel
theorem dX2_isOpenTo_1 : decode cX2_isOpenTo 1 = .ok (.getfield 21, 3) := by decide +kernel
theorem dX2_isOpenTo_4 : decode cX2_isOpenTo 4 = .ok (.ifCond .ne 20, 3) := by decide +kernel
theorem dX2_isOpenTo_7 : decode cX2_isOpenTo 7 = .ok (.aload_n 2, 1) := by decide +kernel
theorem dX2_isOpenTo_8 : decode cX2_isOpenTo 8 = .ok (.iload_n 1, 1) := by decide +kernel
theorem dX2_isOpenTo_9 : decode cX2_isOpenTo 9 = .ok (.aload_n 0, 1) := by decide +kernel
theorem dX2_isOpenTo_10 : decode cX2_isOpenTo 10 = .ok (.getfield 9, 3) := by decide +kernel
theorem dX2_isOpenTo_13 : decode cX2_isOpenTo 13 = .ok (.iload_n 3, 1) := by decide +kernel
theorem dX2_isOpenTo_14 : decode cX2_isOpenTo 14 = .ok (.invokevirtual 25, 3) := by decide +kernel
theorem dX2_isOpenTo_17 : decode cX2_isOpenTo 17 = .ok (.ifCond .eq 7, 3) := by decide +kernel
theorem dX2_isOpenTo_20 : decode cX2_isOpenTo 20 = .ok (.iconst 1, 1) := by decide +kernel
theorem dX2_isOpenTo_21 : decode cX2_isOpenTo 21 = .ok (.goto 4, 3) := by decide +kernel
theorem dX2_isOpenTo_24 : decode cX2_isOpenTo 24 = .ok (.iconst 0, 1) := by decide +kernel
theorem dX2_isOpenTo_25 : decode cX2_isOpenTo 25 = .ok (.ireturn, 1) := by decide +kernel
theorem dX2_bodiesAsked_0 : decode cX2_bodiesAsked 0 = .ok (.iconst 1, 1) := by decide +kernel
theorem dX2_bodiesAsked_1 : decode cX2_bodiesAsked 1 = .ok (.ireturn, 1) := by decide +kernel
set_option maxRecDepth 20000 in
theorem ggX2_copyFor_X5_empty : GoodIn wsX2_copyFor wsX5_empty := goodIn_r _ [5, 6, 38, 39] (by decide +kernel) (by decide +kernel)
set_option maxRecDepth 20000 in
theorem gX2_copyFor_X5_empty : GoodIn wsX2_copyFor (wsV RX2 31 RX5 yX5_empty wsX5_empty) := goodIn_app (goodIn_of _ (by decide +kernel)) ggX2_copyFor_X5_empty
set_option maxRecDepth 20000 in
theorem ggX2_copyFor_X7_length : GoodIn wsX2_copyFor wsX7_length := goodIn_r _ [11, 12, 13, 14, 15, 4, 16, 6, 40, 41, 38, 39] (by decide +kernel) (by decide +kernel)
set_option maxRecDepth 20000 in
theorem gX2_copyFor_X7_length : GoodIn wsX2_copyFor (wsV RX2 36 RX7 yX7_length wsX7_length) := goodIn_app (goodIn_of _ (by decide +kernel)) ggX2_copyFor_X7_length
set_option maxRecDepth 20000 in
theorem ggX2_copyFor_X7_plain : GoodIn wsX2_copyFor wsX7_plain := goodIn_r _ [20, 12, 21, 22, 23, 10, 24, 25, 26, 27, 28, 29, 30, 31, 4, 32, 6, 33, 40, 41, 38, 39] (by decide +kernel) (by decide +kernel)
set_option maxRecDepth 20000 in
theorem gX2_copyFor_X7_plain : GoodIn wsX2_copyFor (wsV RX2 40 RX7 yX7_plain wsX7_plain) := goodIn_app (goodIn_of _ (by decide +kernel)) ggX2_copyFor_X7_plain
set_option maxRecDepth 20000 in
theorem ggX2_copyFor_X5_put : GoodIn wsX2_copyFor wsX5_put := goodIn_r _ [37, 6, 33, 26, 27, 28, 38, 39] (by decide +kernel) (by decide +kernel)
set_option maxRecDepth 20000 in
theorem gX2_copyFor_X5_put : GoodIn wsX2_copyFor (wsV RX2 44 RX5 yX5_put wsX5_put) := goodIn_app (goodIn_of _ (by decide +kernel)) ggX2_copyFor_X5_put
theorem dX2_copyFor_0 : decode cX2_copyFor 0 = .ok (.aload_n 3, 1) := by decide +kernel
theorem dX2_copyFor_1 : decode cX2_copyFor 1 = .ok (.invokevirtual 31, 3) := by decide +kernel
theorem dX2_copyFor_4 : decode cX2_copyFor 4 = .ok (.iconst 0, 1) := by decide +kernel
theorem dX2_copyFor_5 : decode cX2_copyFor 5 = .ok (.istore 4, 2) := by decide +kernel
theorem dX2_copyFor_7 : decode cX2_copyFor 7 = .ok (.iload 4, 2) := by decide +kernel
theorem dX2_copyFor_9 : decode cX2_copyFor 9 = .ok (.aload_n 2, 1) := by decide +kernel
theorem dX2_copyFor_10 : decode cX2_copyFor 10 = .ok (.invokevirtual 36, 3) := by decide +kernel
theorem dX2_copyFor_13 : decode cX2_copyFor 13 = .ok (.if_icmp .ge 19, 3) := by decide +kernel
theorem dX2_copyFor_16 : decode cX2_copyFor 16 = .ok (.aload_n 3, 1) := by decide +kernel
theorem dX2_copyFor_17 : decode cX2_copyFor 17 = .ok (.aload_n 2, 1) := by decide +kernel
theorem dX2_copyFor_18 : decode cX2_copyFor 18 = .ok (.iload 4, 2) := by decide +kernel
theorem dX2_copyFor_20 : decode cX2_copyFor 20 = .ok (.invokevirtual 40, 3) := by decide +kernel
theorem dX2_copyFor_23 : decode cX2_copyFor 23 = .ok (.invokevirtual 44, 3) := by decide +kernel
theorem dX2_copyFor_26 : decode cX2_copyFor 26 = .ok (.iinc 4 1, 3) := by decide +kernel
theorem dX2_copyFor_29 : decode cX2_copyFor 29 = .ok (.goto (-22), 3) := by decide +kernel
theorem dX2_copyFor_32 : decode cX2_copyFor 32 = .ok (.return_, 1) := by decide +kernel
theorem dX2_folder_0 : decode cX2_folder 0 = .ok (.aload_n 0, 1) := by decide +kernel
theorem dX2_folder_1 : decode cX2_folder 1 = .ok (.getfield 9, 3) := by decide +kernel
theorem dX2_folder_4 : decode cX2_folder 4 = .ok (.ireturn, 1) := by decide +kernel
theorem dX2_versions_0 : decode cX2_versions 0 = .ok (.aload_n 0, 1) := by decide +kernel
theorem dX2_versions_1 : decode cX2_versions 1 = .ok (.getfield 48, 3) := by decide +kernel
theorem dX2_versions_4 : decode cX2_versions 4 = .ok (.ireturn, 1) := by decide +kernel
theorem dX2_isFull_0 : decode cX2_isFull 0 = .ok (.aload_n 0, 1) := by decide +kernel
theorem dX2_isFull_1 : decode cX2_isFull 1 = .ok (.getfield 48, 3) := by decide +kernel
theorem dX2_isFull_4 : decode cX2_isFull 4 = .ok (.aload_n 0, 1) := by decide +kernel
theorem dX2_isFull_5 : decode cX2_isFull 5 = .ok (.getfield 17, 3) := by decide +kernel
theorem dX2_isFull_8 : decode cX2_isFull 8 = .ok (.arraylength, 1) := by decide +kernel
theorem dX2_isFull_9 : decode cX2_isFull 9 = .ok (.if_icmp .lt 7, 3) := by decide +kernel
theorem dX2_isFull_12 : decode cX2_isFull 12 = .ok (.iconst 1, 1) := by decide +kernel
theorem dX2_isFull_13 : decode cX2_isFull 13 = .ok (.goto 4, 3) := by decide +kernel
theorem dX2_isFull_16 : decode cX2_isFull 16 = .ok (.iconst 0, 1) := by decide +kernel
theorem dX2_isFull_17 : decode cX2_isFull 17 = .ok (.ireturn, 1) := by decide +kernel
set_option maxRecDepth 20000 in
theorem ggX2_text_X8_isBelow : GoodIn wsX2_text wsX8_isBelow := goodIn_r _ [4] (by decide +kernel) (by decide +kernel)
set_option maxRecDepth 20000 in
theorem gX2_text_X8_isBelow_n51 : GoodIn wsX2_text (wsX8_isBelow) := ggX2_text_X8_isBelow
theorem dX2_text_0 : decode cX2_text 0 = .ok (.iload_n 1, 1) := by decide +kernel
theorem dX2_text_1 : decode cX2_text 1 = .ok (.aload_n 0, 1) := by decide +kernel
theorem dX2_text_2 : decode cX2_text 2 = .ok (.getfield 17, 3) := by decide +kernel
theorem dX2_text_5 : decode cX2_text 5 = .ok (.arraylength, 1) := by decide +kernel
theorem dX2_text_6 : decode cX2_text 6 = .ok (.invokestatic 51, 3) := by decide +kernel
theorem dX2_text_9 : decode cX2_text 9 = .ok (.ifCond .eq 12, 3) := by decide +kernel
theorem dX2_text_12 : decode cX2_text 12 = .ok (.aload_n 0, 1) := by decide +kernel
theorem dX2_text_13 : decode cX2_text 13 = .ok (.getfield 17, 3) := by decide +kernel
theorem dX2_text_16 : decode cX2_text 16 = .ok (.iload_n 1, 1) := by decide +kernel
theorem dX2_text_17 : decode cX2_text 17 = .ok (.aaload, 1) := by decide +kernel
theorem dX2_text_18 : decode cX2_text 18 = .ok (.goto 4, 3) := by decide +kernel
theorem dX2_text_21 : decode cX2_text 21 = .ok (.aconst_null, 1) := by decide +kernel
theorem dX2_text_22 : decode cX2_text 22 = .ok (.areturn, 1) := by decide +kernel
set_option maxRecDepth 20000 in
theorem ggX2_addText_X8_isBelow : GoodIn wsX2_addText wsX8_isBelow := goodIn_r _ [5] (by decide +kernel) (by decide +kernel)
set_option maxRecDepth 20000 in
theorem gX2_addText_X8_isBelow_n51 : GoodIn wsX2_addText (wsX8_isBelow) := ggX2_addText_X8_isBelow
theorem dX2_addText_0 : decode cX2_addText 0 = .ok (.aload_n 0, 1) := by decide +kernel
theorem dX2_addText_1 : decode cX2_addText 1 = .ok (.getfield 48, 3) := by decide +kernel
theorem dX2_addText_4 : decode cX2_addText 4 = .ok (.aload_n 0, 1) := by decide +kernel
theorem dX2_addText_5 : decode cX2_addText 5 = .ok (.getfield 17, 3) := by decide +kernel
theorem dX2_addText_8 : decode cX2_addText 8 = .ok (.arraylength, 1) := by decide +kernel
theorem dX2_addText_9 : decode cX2_addText 9 = .ok (.invokestatic 51, 3) := by decide +kernel
theorem dX2_addText_12 : decode cX2_addText 12 = .ok (.ifCond .ne 6, 3) := by decide +kernel
theorem dX2_addText_15 : decode cX2_addText 15 = .ok (.bipush (-3), 2) := by decide +kernel
theorem dX2_addText_17 : decode cX2_addText 17 = .ok (.ireturn, 1) := by decide +kernel
theorem dX2_addText_18 : decode cX2_addText 18 = .ok (.aload_n 0, 1) := by decide +kernel
theorem dX2_addText_19 : decode cX2_addText 19 = .ok (.getfield 17, 3) := by decide +kernel
theorem dX2_addText_22 : decode cX2_addText 22 = .ok (.aload_n 0, 1) := by decide +kernel
theorem dX2_addText_23 : decode cX2_addText 23 = .ok (.getfield 48, 3) := by decide +kernel
theorem dX2_addText_26 : decode cX2_addText 26 = .ok (.aload_n 1, 1) := by decide +kernel
theorem dX2_addText_27 : decode cX2_addText 27 = .ok (.aastore, 1) := by decide +kernel
theorem dX2_addText_28 : decode cX2_addText 28 = .ok (.aload_n 0, 1) := by decide +kernel
theorem dX2_addText_29 : decode cX2_addText 29 = .ok (.dup, 1) := by decide +kernel
theorem dX2_addText_30 : decode cX2_addText 30 = .ok (.getfield 48, 3) := by decide +kernel
theorem dX2_addText_33 : decode cX2_addText 33 = .ok (.iconst 1, 1) := by decide +kernel
theorem dX2_addText_34 : decode cX2_addText 34 = .ok (.iadd, 1) := by decide +kernel
theorem dX2_addText_35 : decode cX2_addText 35 = .ok (.putfield 48, 3) := by decide +kernel
theorem dX2_addText_38 : decode cX2_addText 38 = .ok (.aload_n 0, 1) := by decide +kernel
theorem dX2_addText_39 : decode cX2_addText 39 = .ok (.getfield 48, 3) := by decide +kernel
theorem dX2_addText_42 : decode cX2_addText 42 = .ok (.iconst 1, 1) := by decide +kernel
theorem dX2_addText_43 : decode cX2_addText 43 = .ok (.isub, 1) := by decide +kernel
theorem dX2_addText_44 : decode cX2_addText 44 = .ok (.ireturn, 1) := by decide +kernel
theorem dX2_isWithdrawn_0 : decode cX2_isWithdrawn 0 = .ok (.aload_n 0, 1) := by decide +kernel
theorem dX2_isWithdrawn_1 : decode cX2_isWithdrawn 1 = .ok (.getfield 21, 3) := by decide +kernel
theorem dX2_isWithdrawn_4 : decode cX2_isWithdrawn 4 = .ok (.ireturn, 1) := by decide +kernel
theorem dX2_setWithdrawn_0 : decode cX2_setWithdrawn 0 = .ok (.aload_n 0, 1) := by decide +kernel
theorem dX2_setWithdrawn_1 : decode cX2_setWithdrawn 1 = .ok (.iconst 1, 1) := by decide +kernel
theorem dX2_setWithdrawn_2 : decode cX2_setWithdrawn 2 = .ok (.putfield 21, 3) := by decide +kernel
theorem dX2_setWithdrawn_5 : decode cX2_setWithdrawn 5 = .ok (.return_, 1) := by decide +kernel
theorem dX3_init_0 : decode cX3_init 0 = .ok (.aload_n 0, 1) := by decide +kernel
theorem dX3_init_1 : decode cX3_init 1 = .ok (.invokespecial 3, 3) := by decide +kernel
theorem dX3_init_4 : decode cX3_init 4 = .ok (.aload_n 0, 1) := by decide +kernel
theorem dX3_init_5 : decode cX3_init 5 = .ok (.iconst 0, 1) := by decide +kernel
theorem dX3_init_6 : decode cX3_init 6 = .ok (.putfield 9, 3) := by decide +kernel
theorem dX3_init_9 : decode cX3_init 9 = .ok (.aload_n 0, 1) := by decide +kernel
theorem dX3_init_10 : decode cX3_init 10 = .ok (.iload_n 1, 1) := by decide +kernel
theorem dX3_init_11 : decode cX3_init 11 = .ok (.putfield 15, 3) := by decide +kernel
theorem dX3_init_14 : decode cX3_init 14 = .ok (.aload_n 0, 1) := by decide +kernel
theorem dX3_init_15 : decode cX3_init 15 = .ok (.iload_n 2, 1) := by decide +kernel
theorem dX3_init_16 : decode cX3_init 16 = .ok (.putfield 18, 3) := by decide +kernel
theorem dX3_init_19 : decode cX3_init 19 = .ok (.return_, 1) := by decide +kernel
theorem dX3_paperNumber_0 : decode cX3_paperNumber 0 = .ok (.aload_n 0, 1) := by decide +kernel
theorem dX3_paperNumber_1 : decode cX3_paperNumber 1 = .ok (.getfield 15, 3) := by decide +kernel
theorem dX3_paperNumber_4 : decode cX3_paperNumber 4 = .ok (.ireturn, 1) := by decide +kernel
theorem dX3_topic_0 : decode cX3_topic 0 = .ok (.aload_n 0, 1) := by decide +kernel
theorem dX3_topic_1 : decode cX3_topic 1 = .ok (.getfield 18, 3) := by decide +kernel
theorem dX3_topic_4 : decode cX3_topic 4 = .ok (.ireturn, 1) := by decide +kernel
theorem dX3_askers_0 : decode cX3_askers 0 = .ok (.aload_n 0, 1) := by decide +kernel
theorem dX3_askers_1 : decode cX3_askers 1 = .ok (.getfield 21, 3) := by decide +kernel
theorem dX3_askers_4 : decode cX3_askers 4 = .ok (.ireturn, 1) := by decide +kernel
theorem dX3_reach_0 : decode cX3_reach 0 = .ok (.aload_n 0, 1) := by decide +kernel
theorem dX3_reach_1 : decode cX3_reach 1 = .ok (.getfield 9, 3) := by decide +kernel
theorem dX3_reach_4 : decode cX3_reach 4 = .ok (.ireturn, 1) := by decide +kernel
theorem dX3_settled_0 : decode cX3_settled 0 = .ok (.aload_n 0, 1) := by decide +kernel
theorem dX3_settled_1 : decode cX3_settled 1 = .ok (.getfield 24, 3) := by decide +kernel
theorem dX3_settled_4 : decode cX3_settled 4 = .ok (.ireturn, 1) := by decide +kernel
theorem dX3_isOn_0 : decode cX3_isOn 0 = .ok (.aload_n 0, 1) := by decide +kernel
theorem dX3_isOn_1 : decode cX3_isOn 1 = .ok (.getfield 15, 3) := by decide +kernel
theorem dX3_isOn_4 : decode cX3_isOn 4 = .ok (.iload_n 1, 1) := by decide +kernel
theorem dX3_isOn_5 : decode cX3_isOn 5 = .ok (.if_icmp .ne 15, 3) := by decide +kernel
theorem dX3_isOn_8 : decode cX3_isOn 8 = .ok (.aload_n 0, 1) := by decide +kernel
theorem dX3_isOn_9 : decode cX3_isOn 9 = .ok (.getfield 18, 3) := by decide +kernel
theorem dX3_isOn_12 : decode cX3_isOn 12 = .ok (.iload_n 2, 1) := by decide +kernel
theorem dX3_isOn_13 : decode cX3_isOn 13 = .ok (.if_icmp .ne 7, 3) := by decide +kernel
theorem dX3_isOn_16 : decode cX3_isOn 16 = .ok (.iconst 1, 1) := by decide +kernel
theorem dX3_isOn_17 : decode cX3_isOn 17 = .ok (.goto 4, 3) := by decide +kernel
theorem dX3_isOn_20 : decode cX3_isOn 20 = .ok (.iconst 0, 1) := by decide +kernel
theorem dX3_isOn_21 : decode cX3_isOn 21 = .ok (.ireturn, 1) := by decide +kernel
theorem dX3_join_0 : decode cX3_join 0 = .ok (.aload_n 0, 1) := by decide +kernel
theorem dX3_join_1 : decode cX3_join 1 = .ok (.dup, 1) := by decide +kernel
theorem dX3_join_2 : decode cX3_join 2 = .ok (.getfield 21, 3) := by decide +kernel
theorem dX3_join_5 : decode cX3_join 5 = .ok (.iconst 1, 1) := by decide +kernel
theorem dX3_join_6 : decode cX3_join 6 = .ok (.iload_n 1, 1) := by decide +kernel
theorem dX3_join_7 : decode cX3_join 7 = .ok (.ishl, 1) := by decide +kernel
theorem dX3_join_8 : decode cX3_join 8 = .ok (.ior, 1) := by decide +kernel
theorem dX3_join_9 : decode cX3_join 9 = .ok (.putfield 21, 3) := by decide +kernel
theorem dX3_join_12 : decode cX3_join 12 = .ok (.return_, 1) := by decide +kernel
theorem dX3_settle_0 : decode cX3_settle 0 = .ok (.aload_n 0, 1) := by decide +kernel
theorem dX3_settle_1 : decode cX3_settle 1 = .ok (.iload_n 1, 1) := by decide +kernel
theorem dX3_settle_2 : decode cX3_settle 2 = .ok (.putfield 24, 3) := by decide +kernel
theorem dX3_settle_5 : decode cX3_settle 5 = .ok (.aload_n 0, 1) := by decide +kernel
theorem dX3_settle_6 : decode cX3_settle 6 = .ok (.iload_n 2, 1) := by decide +kernel
theorem dX3_settle_7 : decode cX3_settle 7 = .ok (.putfield 9, 3) := by decide +kernel
theorem dX3_settle_10 : decode cX3_settle 10 = .ok (.return_, 1) := by decide +kernel
theorem dX3_isAnswered_0 : decode cX3_isAnswered 0 = .ok (.aload_n 0, 1) := by decide +kernel
theorem dX3_isAnswered_1 : decode cX3_isAnswered 1 = .ok (.getfield 9, 3) := by decide +kernel
theorem dX3_isAnswered_4 : decode cX3_isAnswered 4 = .ok (.ifCond .eq 7, 3) := by decide +kernel
theorem dX3_isAnswered_7 : decode cX3_isAnswered 7 = .ok (.iconst 1, 1) := by decide +kernel
theorem dX3_isAnswered_8 : decode cX3_isAnswered 8 = .ok (.goto 4, 3) := by decide +kernel
theorem dX3_isAnswered_11 : decode cX3_isAnswered 11 = .ok (.iconst 0, 1) := by decide +kernel
theorem dX3_isAnswered_12 : decode cX3_isAnswered 12 = .ok (.ireturn, 1) := by decide +kernel
theorem dX3_isFor_0 : decode cX3_isFor 0 = .ok (.aload_n 0, 1) := by decide +kernel
theorem dX3_isFor_1 : decode cX3_isFor 1 = .ok (.getfield 9, 3) := by decide +kernel
theorem dX3_isFor_4 : decode cX3_isFor 4 = .ok (.iconst 2, 1) := by decide +kernel
theorem dX3_isFor_5 : decode cX3_isFor 5 = .ok (.if_icmp .eq 15, 3) := by decide +kernel
theorem dX3_isFor_8 : decode cX3_isFor 8 = .ok (.aload_n 0, 1) := by decide +kernel
theorem dX3_isFor_9 : decode cX3_isFor 9 = .ok (.getfield 21, 3) := by decide +kernel
theorem dX3_isFor_12 : decode cX3_isFor 12 = .ok (.iload_n 1, 1) := by decide +kernel
theorem dX3_isFor_13 : decode cX3_isFor 13 = .ok (.ishr, 1) := by decide +kernel
theorem dX3_isFor_14 : decode cX3_isFor 14 = .ok (.iconst 1, 1) := by decide +kernel
theorem dX3_isFor_15 : decode cX3_isFor 15 = .ok (.iand, 1) := by decide +kernel
theorem dX3_isFor_16 : decode cX3_isFor 16 = .ok (.iconst 1, 1) := by decide +kernel
theorem dX3_isFor_17 : decode cX3_isFor 17 = .ok (.if_icmp .ne 7, 3) := by decide +kernel
theorem dX3_isFor_20 : decode cX3_isFor 20 = .ok (.iconst 1, 1) := by decide +kernel
theorem dX3_isFor_21 : decode cX3_isFor 21 = .ok (.goto 4, 3) := by decide +kernel
theorem dX3_isFor_24 : decode cX3_isFor 24 = .ok (.iconst 0, 1) := by decide +kernel
theorem dX3_isFor_25 : decode cX3_isFor 25 = .ok (.ireturn, 1) := by decide +kernel
theorem dX4_init_0 : decode cX4_init 0 = .ok (.aload_n 0, 1) := by decide +kernel
theorem dX4_init_1 : decode cX4_init 1 = .ok (.invokespecial 3, 3) := by decide +kernel
theorem dX4_init_4 : decode cX4_init 4 = .ok (.aload_n 0, 1) := by decide +kernel
theorem dX4_init_5 : decode cX4_init 5 = .ok (.bipush 12, 2) := by decide +kernel
theorem dX4_init_7 : decode cX4_init 7 = .ok (.newarray .int, 2) := by decide +kernel
theorem dX4_init_9 : decode cX4_init 9 = .ok (.putfield 9, 3) := by decide +kernel
theorem dX4_init_12 : decode cX4_init 12 = .ok (.aload_n 0, 1) := by decide +kernel
theorem dX4_init_13 : decode cX4_init 13 = .ok (.bipush 12, 2) := by decide +kernel
theorem dX4_init_15 : decode cX4_init 15 = .ok (.newarray .int, 2) := by decide +kernel
theorem dX4_init_17 : decode cX4_init 17 = .ok (.putfield 15, 3) := by decide +kernel
theorem dX4_init_20 : decode cX4_init 20 = .ok (.return_, 1) := by decide +kernel
set_option maxRecDepth 20000 in
theorem ggX4_grant_X8_isBelow : GoodIn wsX4_grant wsX8_isBelow := goodIn_r _ [5] (by decide +kernel) (by decide +kernel)
set_option maxRecDepth 20000 in
theorem gX4_grant_X8_isBelow_n18 : GoodIn wsX4_grant (wsX8_isBelow) := ggX4_grant_X8_isBelow
theorem dX4_grant_0 : decode cX4_grant 0 = .ok (.iload_n 1, 1) := by decide +kernel
theorem dX4_grant_1 : decode cX4_grant 1 = .ok (.iconst 4, 1) := by decide +kernel
theorem dX4_grant_2 : decode cX4_grant 2 = .ok (.imul, 1) := by decide +kernel
theorem dX4_grant_3 : decode cX4_grant 3 = .ok (.iload_n 2, 1) := by decide +kernel
theorem dX4_grant_4 : decode cX4_grant 4 = .ok (.iadd, 1) := by decide +kernel
theorem dX4_grant_5 : decode cX4_grant 5 = .ok (.istore 5, 2) := by decide +kernel
theorem dX4_grant_7 : decode cX4_grant 7 = .ok (.iload 5, 2) := by decide +kernel
theorem dX4_grant_9 : decode cX4_grant 9 = .ok (.aload_n 0, 1) := by decide +kernel
theorem dX4_grant_10 : decode cX4_grant 10 = .ok (.getfield 9, 3) := by decide +kernel
theorem dX4_grant_13 : decode cX4_grant 13 = .ok (.arraylength, 1) := by decide +kernel
theorem dX4_grant_14 : decode cX4_grant 14 = .ok (.invokestatic 18, 3) := by decide +kernel
theorem dX4_grant_17 : decode cX4_grant 17 = .ok (.ifCond .eq 30, 3) := by decide +kernel
theorem dX4_grant_20 : decode cX4_grant 20 = .ok (.iload 5, 2) := by decide +kernel
theorem dX4_grant_22 : decode cX4_grant 22 = .ok (.aload_n 0, 1) := by decide +kernel
theorem dX4_grant_23 : decode cX4_grant 23 = .ok (.getfield 15, 3) := by decide +kernel
theorem dX4_grant_26 : decode cX4_grant 26 = .ok (.arraylength, 1) := by decide +kernel
theorem dX4_grant_27 : decode cX4_grant 27 = .ok (.if_icmp .ge 20, 3) := by decide +kernel
theorem dX4_grant_30 : decode cX4_grant 30 = .ok (.aload_n 0, 1) := by decide +kernel
theorem dX4_grant_31 : decode cX4_grant 31 = .ok (.getfield 9, 3) := by decide +kernel
theorem dX4_grant_34 : decode cX4_grant 34 = .ok (.iload 5, 2) := by decide +kernel
theorem dX4_grant_36 : decode cX4_grant 36 = .ok (.iload_n 3, 1) := by decide +kernel
theorem dX4_grant_37 : decode cX4_grant 37 = .ok (.iastore, 1) := by decide +kernel
theorem dX4_grant_38 : decode cX4_grant 38 = .ok (.aload_n 0, 1) := by decide +kernel
theorem dX4_grant_39 : decode cX4_grant 39 = .ok (.getfield 15, 3) := by decide +kernel
theorem dX4_grant_42 : decode cX4_grant 42 = .ok (.iload 5, 2) := by decide +kernel
theorem dX4_grant_44 : decode cX4_grant 44 = .ok (.iload 4, 2) := by decide +kernel
theorem dX4_grant_46 : decode cX4_grant 46 = .ok (.iastore, 1) := by decide +kernel
theorem dX4_grant_47 : decode cX4_grant 47 = .ok (.return_, 1) := by decide +kernel
set_option maxRecDepth 20000 in
theorem ggX4_cover_X8_isBelow : GoodIn wsX4_cover wsX8_isBelow := goodIn_r _ [5] (by decide +kernel) (by decide +kernel)
set_option maxRecDepth 20000 in
theorem gX4_cover_X8_isBelow_n18 : GoodIn wsX4_cover (wsX8_isBelow) := ggX4_cover_X8_isBelow
theorem dX4_cover_0 : decode cX4_cover 0 = .ok (.iload_n 1, 1) := by decide +kernel
theorem dX4_cover_1 : decode cX4_cover 1 = .ok (.iconst 4, 1) := by decide +kernel
theorem dX4_cover_2 : decode cX4_cover 2 = .ok (.imul, 1) := by decide +kernel
theorem dX4_cover_3 : decode cX4_cover 3 = .ok (.iload_n 2, 1) := by decide +kernel
theorem dX4_cover_4 : decode cX4_cover 4 = .ok (.iadd, 1) := by decide +kernel
theorem dX4_cover_5 : decode cX4_cover 5 = .ok (.istore 4, 2) := by decide +kernel
theorem dX4_cover_7 : decode cX4_cover 7 = .ok (.iload 4, 2) := by decide +kernel
theorem dX4_cover_9 : decode cX4_cover 9 = .ok (.aload_n 0, 1) := by decide +kernel
theorem dX4_cover_10 : decode cX4_cover 10 = .ok (.getfield 9, 3) := by decide +kernel
theorem dX4_cover_13 : decode cX4_cover 13 = .ok (.arraylength, 1) := by decide +kernel
theorem dX4_cover_14 : decode cX4_cover 14 = .ok (.invokestatic 18, 3) := by decide +kernel
theorem dX4_cover_17 : decode cX4_cover 17 = .ok (.ifCond .eq 39, 3) := by decide +kernel
theorem dX4_cover_20 : decode cX4_cover 20 = .ok (.iload 4, 2) := by decide +kernel
theorem dX4_cover_22 : decode cX4_cover 22 = .ok (.aload_n 0, 1) := by decide +kernel
theorem dX4_cover_23 : decode cX4_cover 23 = .ok (.getfield 15, 3) := by decide +kernel
theorem dX4_cover_26 : decode cX4_cover 26 = .ok (.arraylength, 1) := by decide +kernel
theorem dX4_cover_27 : decode cX4_cover 27 = .ok (.if_icmp .ge 29, 3) := by decide +kernel
theorem dX4_cover_30 : decode cX4_cover 30 = .ok (.iload_n 3, 1) := by decide +kernel
theorem dX4_cover_31 : decode cX4_cover 31 = .ok (.aload_n 0, 1) := by decide +kernel
theorem dX4_cover_32 : decode cX4_cover 32 = .ok (.getfield 9, 3) := by decide +kernel
theorem dX4_cover_35 : decode cX4_cover 35 = .ok (.iload 4, 2) := by decide +kernel
theorem dX4_cover_37 : decode cX4_cover 37 = .ok (.iaload, 1) := by decide +kernel
theorem dX4_cover_38 : decode cX4_cover 38 = .ok (.if_icmp .lt 18, 3) := by decide +kernel
theorem dX4_cover_41 : decode cX4_cover 41 = .ok (.iload_n 3, 1) := by decide +kernel
theorem dX4_cover_42 : decode cX4_cover 42 = .ok (.aload_n 0, 1) := by decide +kernel
theorem dX4_cover_43 : decode cX4_cover 43 = .ok (.getfield 15, 3) := by decide +kernel
theorem dX4_cover_46 : decode cX4_cover 46 = .ok (.iload 4, 2) := by decide +kernel
theorem dX4_cover_48 : decode cX4_cover 48 = .ok (.iaload, 1) := by decide +kernel
theorem dX4_cover_49 : decode cX4_cover 49 = .ok (.if_icmp .ge 7, 3) := by decide +kernel
theorem dX4_cover_52 : decode cX4_cover 52 = .ok (.iconst 1, 1) := by decide +kernel
theorem dX4_cover_53 : decode cX4_cover 53 = .ok (.goto 4, 3) := by decide +kernel
theorem dX4_cover_56 : decode cX4_cover 56 = .ok (.iconst 0, 1) := by decide +kernel
theorem dX4_cover_57 : decode cX4_cover 57 = .ok (.ireturn, 1) := by decide +kernel
theorem dX5_init_0 : decode cX5_init 0 = .ok (.aload_n 0, 1) := by decide +kernel
theorem dX5_init_1 : decode cX5_init 1 = .ok (.invokespecial 3, 3) := by decide +kernel
theorem dX5_init_4 : decode cX5_init 4 = .ok (.aload_n 0, 1) := by decide +kernel
theorem dX5_init_5 : decode cX5_init 5 = .ok (.iload_n 1, 1) := by decide +kernel
theorem dX5_init_6 : decode cX5_init 6 = .ok (.iconst 0, 1) := by decide +kernel
theorem dX5_init_7 : decode cX5_init 7 = .ok (.invokestatic 9, 3) := by decide +kernel
theorem dX5_init_10 : decode cX5_init 10 = .ok (.newarray .byte, 2) := by decide +kernel
theorem dX5_init_12 : decode cX5_init 12 = .ok (.putfield 15, 3) := by decide +kernel
theorem dX5_init_15 : decode cX5_init 15 = .ok (.return_, 1) := by decide +kernel
theorem dX5_length_0 : decode cX5_length 0 = .ok (.aload_n 0, 1) := by decide +kernel
theorem dX5_length_1 : decode cX5_length 1 = .ok (.getfield 21, 3) := by decide +kernel
theorem dX5_length_4 : decode cX5_length 4 = .ok (.ireturn, 1) := by decide +kernel
theorem dX5_space_0 : decode cX5_space 0 = .ok (.aload_n 0, 1) := by decide +kernel
theorem dX5_space_1 : decode cX5_space 1 = .ok (.getfield 15, 3) := by decide +kernel
theorem dX5_space_4 : decode cX5_space 4 = .ok (.arraylength, 1) := by decide +kernel
theorem dX5_space_5 : decode cX5_space 5 = .ok (.aload_n 0, 1) := by decide +kernel
theorem dX5_space_6 : decode cX5_space 6 = .ok (.getfield 21, 3) := by decide +kernel
theorem dX5_space_9 : decode cX5_space 9 = .ok (.isub, 1) := by decide +kernel
theorem dX5_space_10 : decode cX5_space 10 = .ok (.ireturn, 1) := by decide +kernel
theorem dX5_empty_0 : decode cX5_empty 0 = .ok (.aload_n 0, 1) := by decide +kernel
theorem dX5_empty_1 : decode cX5_empty 1 = .ok (.iconst 0, 1) := by decide +kernel
theorem dX5_empty_2 : decode cX5_empty 2 = .ok (.putfield 21, 3) := by decide +kernel
theorem dX5_empty_5 : decode cX5_empty 5 = .ok (.return_, 1) := by decide +kernel
set_option maxRecDepth 20000 in
theorem ggX5_put_X8_isBelow : GoodIn wsX5_put wsX8_isBelow := goodIn_r _ [5] (by decide +kernel) (by decide +kernel)
set_option maxRecDepth 20000 in
theorem gX5_put_X8_isBelow_n25 : GoodIn wsX5_put (wsX8_isBelow) := ggX5_put_X8_isBelow
theorem dX5_put_0 : decode cX5_put 0 = .ok (.aload_n 0, 1) := by decide +kernel
theorem dX5_put_1 : decode cX5_put 1 = .ok (.getfield 21, 3) := by decide +kernel
theorem dX5_put_4 : decode cX5_put 4 = .ok (.aload_n 0, 1) := by decide +kernel
theorem dX5_put_5 : decode cX5_put 5 = .ok (.getfield 15, 3) := by decide +kernel
theorem dX5_put_8 : decode cX5_put 8 = .ok (.arraylength, 1) := by decide +kernel
theorem dX5_put_9 : decode cX5_put 9 = .ok (.invokestatic 25, 3) := by decide +kernel
theorem dX5_put_12 : decode cX5_put 12 = .ok (.ifCond .eq 24, 3) := by decide +kernel
theorem dX5_put_15 : decode cX5_put 15 = .ok (.aload_n 0, 1) := by decide +kernel
theorem dX5_put_16 : decode cX5_put 16 = .ok (.getfield 15, 3) := by decide +kernel
theorem dX5_put_19 : decode cX5_put 19 = .ok (.aload_n 0, 1) := by decide +kernel
theorem dX5_put_20 : decode cX5_put 20 = .ok (.getfield 21, 3) := by decide +kernel
theorem dX5_put_23 : decode cX5_put 23 = .ok (.iload_n 1, 1) := by decide +kernel
theorem dX5_put_24 : decode cX5_put 24 = .ok (.i2b, 1) := by decide +kernel
theorem dX5_put_25 : decode cX5_put 25 = .ok (.bastore, 1) := by decide +kernel
theorem dX5_put_26 : decode cX5_put 26 = .ok (.aload_n 0, 1) := by decide +kernel
theorem dX5_put_27 : decode cX5_put 27 = .ok (.dup, 1) := by decide +kernel
theorem dX5_put_28 : decode cX5_put 28 = .ok (.getfield 21, 3) := by decide +kernel
theorem dX5_put_31 : decode cX5_put 31 = .ok (.iconst 1, 1) := by decide +kernel
theorem dX5_put_32 : decode cX5_put 32 = .ok (.iadd, 1) := by decide +kernel
theorem dX5_put_33 : decode cX5_put 33 = .ok (.putfield 21, 3) := by decide +kernel
theorem dX5_put_36 : decode cX5_put 36 = .ok (.return_, 1) := by decide +kernel
set_option maxRecDepth 20000 in
theorem ggX5_get_X8_isBelow : GoodIn wsX5_get wsX8_isBelow := goodIn_r _ [5] (by decide +kernel) (by decide +kernel)
set_option maxRecDepth 20000 in
theorem gX5_get_X8_isBelow_n25 : GoodIn wsX5_get (wsX8_isBelow) := ggX5_get_X8_isBelow
theorem dX5_get_0 : decode cX5_get 0 = .ok (.iload_n 1, 1) := by decide +kernel
theorem dX5_get_1 : decode cX5_get 1 = .ok (.aload_n 0, 1) := by decide +kernel
theorem dX5_get_2 : decode cX5_get 2 = .ok (.getfield 21, 3) := by decide +kernel
theorem dX5_get_5 : decode cX5_get 5 = .ok (.invokestatic 25, 3) := by decide +kernel
theorem dX5_get_8 : decode cX5_get 8 = .ok (.ifCond .eq 21, 3) := by decide +kernel
theorem dX5_get_11 : decode cX5_get 11 = .ok (.iload_n 1, 1) := by decide +kernel
theorem dX5_get_12 : decode cX5_get 12 = .ok (.aload_n 0, 1) := by decide +kernel
theorem dX5_get_13 : decode cX5_get 13 = .ok (.getfield 15, 3) := by decide +kernel
theorem dX5_get_16 : decode cX5_get 16 = .ok (.arraylength, 1) := by decide +kernel
theorem dX5_get_17 : decode cX5_get 17 = .ok (.if_icmp .ge 12, 3) := by decide +kernel
theorem dX5_get_20 : decode cX5_get 20 = .ok (.aload_n 0, 1) := by decide +kernel
theorem dX5_get_21 : decode cX5_get 21 = .ok (.getfield 15, 3) := by decide +kernel
theorem dX5_get_24 : decode cX5_get 24 = .ok (.iload_n 1, 1) := by decide +kernel
theorem dX5_get_25 : decode cX5_get 25 = .ok (.baload, 1) := by decide +kernel
theorem dX5_get_26 : decode cX5_get 26 = .ok (.goto 5, 3) := by decide +kernel
theorem dX5_get_29 : decode cX5_get 29 = .ok (.bipush (-9), 2) := by decide +kernel
theorem dX5_get_31 : decode cX5_get 31 = .ok (.ireturn, 1) := by decide +kernel
set_option maxRecDepth 20000 in
theorem ggX5_beginsWith_X5_length : GoodIn wsX5_beginsWith wsX5_length := goodIn_r _ [6, 1, 15, 16] (by decide +kernel) (by decide +kernel)
set_option maxRecDepth 20000 in
theorem gX5_beginsWith_X5_length : GoodIn wsX5_beginsWith (wsV RX5 29 RX5 yX5_length wsX5_length) := goodIn_app (goodIn_of _ (by decide +kernel)) ggX5_beginsWith_X5_length
set_option maxRecDepth 20000 in
theorem ggX5_beginsWith_X5_get : GoodIn wsX5_beginsWith wsX5_get := goodIn_r _ [10, 1, 11, 12, 13, 14, 15, 16] (by decide +kernel) (by decide +kernel)
set_option maxRecDepth 20000 in
theorem gX5_beginsWith_X5_get : GoodIn wsX5_beginsWith (wsV RX5 32 RX5 yX5_get wsX5_get) := goodIn_app (goodIn_of _ (by decide +kernel)) ggX5_beginsWith_X5_get
theorem dX5_beginsWith_0 : decode cX5_beginsWith 0 = .ok (.aload_n 1, 1) := by decide +kernel
theorem dX5_beginsWith_1 : decode cX5_beginsWith 1 = .ok (.invokevirtual 29, 3) := by decide +kernel
theorem dX5_beginsWith_4 : decode cX5_beginsWith 4 = .ok (.aload_n 0, 1) := by decide +kernel
theorem dX5_beginsWith_5 : decode cX5_beginsWith 5 = .ok (.getfield 21, 3) := by decide +kernel
theorem dX5_beginsWith_8 : decode cX5_beginsWith 8 = .ok (.if_icmp .le 5, 3) := by decide +kernel
theorem dX5_beginsWith_11 : decode cX5_beginsWith 11 = .ok (.iconst 0, 1) := by decide +kernel
theorem dX5_beginsWith_12 : decode cX5_beginsWith 12 = .ok (.ireturn, 1) := by decide +kernel
theorem dX5_beginsWith_13 : decode cX5_beginsWith 13 = .ok (.iconst 0, 1) := by decide +kernel
theorem dX5_beginsWith_14 : decode cX5_beginsWith 14 = .ok (.istore_n 2, 1) := by decide +kernel
theorem dX5_beginsWith_15 : decode cX5_beginsWith 15 = .ok (.iload_n 2, 1) := by decide +kernel
theorem dX5_beginsWith_16 : decode cX5_beginsWith 16 = .ok (.aload_n 1, 1) := by decide +kernel
theorem dX5_beginsWith_17 : decode cX5_beginsWith 17 = .ok (.invokevirtual 29, 3) := by decide +kernel
theorem dX5_beginsWith_20 : decode cX5_beginsWith 20 = .ok (.if_icmp .ge 24, 3) := by decide +kernel
theorem dX5_beginsWith_23 : decode cX5_beginsWith 23 = .ok (.aload_n 0, 1) := by decide +kernel
theorem dX5_beginsWith_24 : decode cX5_beginsWith 24 = .ok (.iload_n 2, 1) := by decide +kernel
theorem dX5_beginsWith_25 : decode cX5_beginsWith 25 = .ok (.invokevirtual 32, 3) := by decide +kernel
theorem dX5_beginsWith_28 : decode cX5_beginsWith 28 = .ok (.aload_n 1, 1) := by decide +kernel
theorem dX5_beginsWith_29 : decode cX5_beginsWith 29 = .ok (.iload_n 2, 1) := by decide +kernel
theorem dX5_beginsWith_30 : decode cX5_beginsWith 30 = .ok (.invokevirtual 32, 3) := by decide +kernel
theorem dX5_beginsWith_33 : decode cX5_beginsWith 33 = .ok (.if_icmp .eq 5, 3) := by decide +kernel
theorem dX5_beginsWith_36 : decode cX5_beginsWith 36 = .ok (.iconst 0, 1) := by decide +kernel
theorem dX5_beginsWith_37 : decode cX5_beginsWith 37 = .ok (.ireturn, 1) := by decide +kernel
theorem dX5_beginsWith_38 : decode cX5_beginsWith 38 = .ok (.iinc 2 1, 3) := by decide +kernel
theorem dX5_beginsWith_41 : decode cX5_beginsWith 41 = .ok (.goto (-26), 3) := by decide +kernel
theorem dX5_beginsWith_44 : decode cX5_beginsWith 44 = .ok (.iconst 1, 1) := by decide +kernel
theorem dX5_beginsWith_45 : decode cX5_beginsWith 45 = .ok (.ireturn, 1) := by decide +kernel
theorem dX6_init_0 : decode cX6_init 0 = .ok (.aload_n 0, 1) := by decide +kernel
theorem dX6_init_1 : decode cX6_init 1 = .ok (.invokespecial 3, 3) := by decide +kernel
theorem dX6_init_4 : decode cX6_init 4 = .ok (.aload_n 0, 1) := by decide +kernel
theorem dX6_init_5 : decode cX6_init 5 = .ok (.sipush 200, 3) := by decide +kernel
theorem dX6_init_8 : decode cX6_init 8 = .ok (.newarray .int, 2) := by decide +kernel
theorem dX6_init_10 : decode cX6_init 10 = .ok (.putfield 9, 3) := by decide +kernel
theorem dX6_init_13 : decode cX6_init 13 = .ok (.aload_n 0, 1) := by decide +kernel
theorem dX6_init_14 : decode cX6_init 14 = .ok (.sipush 200, 3) := by decide +kernel
theorem dX6_init_17 : decode cX6_init 17 = .ok (.newarray .int, 2) := by decide +kernel
theorem dX6_init_19 : decode cX6_init 19 = .ok (.putfield 15, 3) := by decide +kernel
theorem dX6_init_22 : decode cX6_init 22 = .ok (.aload_n 0, 1) := by decide +kernel
theorem dX6_init_23 : decode cX6_init 23 = .ok (.sipush 200, 3) := by decide +kernel
theorem dX6_init_26 : decode cX6_init 26 = .ok (.newarray .int, 2) := by decide +kernel
theorem dX6_init_28 : decode cX6_init 28 = .ok (.putfield 18, 3) := by decide +kernel
theorem dX6_init_31 : decode cX6_init 31 = .ok (.aload_n 0, 1) := by decide +kernel
theorem dX6_init_32 : decode cX6_init 32 = .ok (.sipush 200, 3) := by decide +kernel
theorem dX6_init_35 : decode cX6_init 35 = .ok (.newarray .int, 2) := by decide +kernel
theorem dX6_init_37 : decode cX6_init 37 = .ok (.putfield 21, 3) := by decide +kernel
theorem dX6_init_40 : decode cX6_init 40 = .ok (.aload_n 0, 1) := by decide +kernel
theorem dX6_init_41 : decode cX6_init 41 = .ok (.sipush 200, 3) := by decide +kernel
theorem dX6_init_44 : decode cX6_init 44 = .ok (.newarray .long, 2) := by decide +kernel
theorem dX6_init_46 : decode cX6_init 46 = .ok (.putfield 24, 3) := by decide +kernel
theorem dX6_init_49 : decode cX6_init 49 = .ok (.return_, 1) := by decide +kernel
theorem dX6_entries_0 : decode cX6_entries 0 = .ok (.aload_n 0, 1) := by decide +kernel
theorem dX6_entries_1 : decode cX6_entries 1 = .ok (.getfield 28, 3) := by decide +kernel
theorem dX6_entries_4 : decode cX6_entries 4 = .ok (.ireturn, 1) := by decide +kernel
theorem dX6_lost_0 : decode cX6_lost 0 = .ok (.aload_n 0, 1) := by decide +kernel
theorem dX6_lost_1 : decode cX6_lost 1 = .ok (.getfield 32, 3) := by decide +kernel
theorem dX6_lost_4 : decode cX6_lost 4 = .ok (.ireturn, 1) := by decide +kernel
set_option maxRecDepth 20000 in
theorem ggX6_note_X8_isBelow : GoodIn wsX6_note wsX8_isBelow := goodIn_r _ [15] (by decide +kernel) (by decide +kernel)
set_option maxRecDepth 20000 in
theorem gX6_note_X8_isBelow_n35 : GoodIn wsX6_note (wsX8_isBelow) := ggX6_note_X8_isBelow
theorem dX6_note_0 : decode cX6_note 0 = .ok (.aload_n 0, 1) := by decide +kernel
theorem dX6_note_1 : decode cX6_note 1 = .ok (.getfield 28, 3) := by decide +kernel
theorem dX6_note_4 : decode cX6_note 4 = .ok (.sipush 200, 3) := by decide +kernel
theorem dX6_note_7 : decode cX6_note 7 = .ok (.invokestatic 35, 3) := by decide +kernel
theorem dX6_note_10 : decode cX6_note 10 = .ok (.ifCond .ne 14, 3) := by decide +kernel
theorem dX6_note_13 : decode cX6_note 13 = .ok (.aload_n 0, 1) := by decide +kernel
theorem dX6_note_14 : decode cX6_note 14 = .ok (.dup, 1) := by decide +kernel
theorem dX6_note_15 : decode cX6_note 15 = .ok (.getfield 32, 3) := by decide +kernel
theorem dX6_note_18 : decode cX6_note 18 = .ok (.iconst 1, 1) := by decide +kernel
theorem dX6_note_19 : decode cX6_note 19 = .ok (.iadd, 1) := by decide +kernel
theorem dX6_note_20 : decode cX6_note 20 = .ok (.putfield 32, 3) := by decide +kernel
theorem dX6_note_23 : decode cX6_note 23 = .ok (.return_, 1) := by decide +kernel
theorem dX6_note_24 : decode cX6_note 24 = .ok (.aload_n 0, 1) := by decide +kernel
theorem dX6_note_25 : decode cX6_note 25 = .ok (.getfield 28, 3) := by decide +kernel
theorem dX6_note_28 : decode cX6_note 28 = .ok (.ifCond .ne 9, 3) := by decide +kernel
theorem dX6_note_31 : decode cX6_note 31 = .ok (.ldc2_w 39, 3) := by decide +kernel
theorem dX6_note_34 : decode cX6_note 34 = .ok (.goto 14, 3) := by decide +kernel
theorem dX6_note_37 : decode cX6_note 37 = .ok (.aload_n 0, 1) := by decide +kernel
theorem dX6_note_38 : decode cX6_note 38 = .ok (.getfield 24, 3) := by decide +kernel
theorem dX6_note_41 : decode cX6_note 41 = .ok (.aload_n 0, 1) := by decide +kernel
theorem dX6_note_42 : decode cX6_note 42 = .ok (.getfield 28, 3) := by decide +kernel
theorem dX6_note_45 : decode cX6_note 45 = .ok (.iconst 1, 1) := by decide +kernel
theorem dX6_note_46 : decode cX6_note 46 = .ok (.isub, 1) := by decide +kernel
theorem dX6_note_47 : decode cX6_note 47 = .ok (.laload, 1) := by decide +kernel
theorem dX6_note_48 : decode cX6_note 48 = .ok (.lstore 5, 2) := by decide +kernel
theorem dX6_note_50 : decode cX6_note 50 = .ok (.aload_n 0, 1) := by decide +kernel
theorem dX6_note_51 : decode cX6_note 51 = .ok (.getfield 9, 3) := by decide +kernel
theorem dX6_note_54 : decode cX6_note 54 = .ok (.aload_n 0, 1) := by decide +kernel
theorem dX6_note_55 : decode cX6_note 55 = .ok (.getfield 28, 3) := by decide +kernel
theorem dX6_note_58 : decode cX6_note 58 = .ok (.iload_n 1, 1) := by decide +kernel
theorem dX6_note_59 : decode cX6_note 59 = .ok (.iastore, 1) := by decide +kernel
theorem dX6_note_60 : decode cX6_note 60 = .ok (.aload_n 0, 1) := by decide +kernel
theorem dX6_note_61 : decode cX6_note 61 = .ok (.getfield 15, 3) := by decide +kernel
theorem dX6_note_64 : decode cX6_note 64 = .ok (.aload_n 0, 1) := by decide +kernel
theorem dX6_note_65 : decode cX6_note 65 = .ok (.getfield 28, 3) := by decide +kernel
theorem dX6_note_68 : decode cX6_note 68 = .ok (.iload_n 2, 1) := by decide +kernel
theorem dX6_note_69 : decode cX6_note 69 = .ok (.iastore, 1) := by decide +kernel
theorem dX6_note_70 : decode cX6_note 70 = .ok (.aload_n 0, 1) := by decide +kernel
theorem dX6_note_71 : decode cX6_note 71 = .ok (.getfield 18, 3) := by decide +kernel
theorem dX6_note_74 : decode cX6_note 74 = .ok (.aload_n 0, 1) := by decide +kernel
theorem dX6_note_75 : decode cX6_note 75 = .ok (.getfield 28, 3) := by decide +kernel
theorem dX6_note_78 : decode cX6_note 78 = .ok (.iload_n 3, 1) := by decide +kernel
theorem dX6_note_79 : decode cX6_note 79 = .ok (.iastore, 1) := by decide +kernel
theorem dX6_note_80 : decode cX6_note 80 = .ok (.aload_n 0, 1) := by decide +kernel
theorem dX6_note_81 : decode cX6_note 81 = .ok (.getfield 21, 3) := by decide +kernel
theorem dX6_note_84 : decode cX6_note 84 = .ok (.aload_n 0, 1) := by decide +kernel
theorem dX6_note_85 : decode cX6_note 85 = .ok (.getfield 28, 3) := by decide +kernel
theorem dX6_note_88 : decode cX6_note 88 = .ok (.iload 4, 2) := by decide +kernel
theorem dX6_note_90 : decode cX6_note 90 = .ok (.iastore, 1) := by decide +kernel
theorem dX6_note_91 : decode cX6_note 91 = .ok (.aload_n 0, 1) := by decide +kernel
theorem dX6_note_92 : decode cX6_note 92 = .ok (.getfield 24, 3) := by decide +kernel
theorem dX6_note_95 : decode cX6_note 95 = .ok (.aload_n 0, 1) := by decide +kernel
theorem dX6_note_96 : decode cX6_note 96 = .ok (.getfield 28, 3) := by decide +kernel
theorem dX6_note_99 : decode cX6_note 99 = .ok (.ldc2_w 41, 3) := by decide +kernel
theorem dX6_note_102 : decode cX6_note 102 = .ok (.lload 5, 2) := by decide +kernel
theorem dX6_note_104 : decode cX6_note 104 = .ok (.lmul, 1) := by decide +kernel
theorem dX6_note_105 : decode cX6_note 105 = .ok (.ldc2_w 43, 3) := by decide +kernel
theorem dX6_note_108 : decode cX6_note 108 = .ok (.iload_n 1, 1) := by decide +kernel
theorem dX6_note_109 : decode cX6_note 109 = .ok (.i2l, 1) := by decide +kernel
theorem dX6_note_110 : decode cX6_note 110 = .ok (.lmul, 1) := by decide +kernel
theorem dX6_note_111 : decode cX6_note 111 = .ok (.ladd, 1) := by decide +kernel
theorem dX6_note_112 : decode cX6_note 112 = .ok (.ldc2_w 45, 3) := by decide +kernel
theorem dX6_note_115 : decode cX6_note 115 = .ok (.iload_n 2, 1) := by decide +kernel
theorem dX6_note_116 : decode cX6_note 116 = .ok (.i2l, 1) := by decide +kernel
theorem dX6_note_117 : decode cX6_note 117 = .ok (.lmul, 1) := by decide +kernel
theorem dX6_note_118 : decode cX6_note 118 = .ok (.ladd, 1) := by decide +kernel
theorem dX6_note_119 : decode cX6_note 119 = .ok (.ldc2_w 47, 3) := by decide +kernel
theorem dX6_note_122 : decode cX6_note 122 = .ok (.iload_n 3, 1) := by decide +kernel
theorem dX6_note_123 : decode cX6_note 123 = .ok (.i2l, 1) := by decide +kernel
theorem dX6_note_124 : decode cX6_note 124 = .ok (.lmul, 1) := by decide +kernel
theorem dX6_note_125 : decode cX6_note 125 = .ok (.ladd, 1) := by decide +kernel
theorem dX6_note_126 : decode cX6_note 126 = .ok (.iload 4, 2) := by decide +kernel
theorem dX6_note_128 : decode cX6_note 128 = .ok (.i2l, 1) := by decide +kernel
theorem dX6_note_129 : decode cX6_note 129 = .ok (.ladd, 1) := by decide +kernel
theorem dX6_note_130 : decode cX6_note 130 = .ok (.lastore, 1) := by decide +kernel
theorem dX6_note_131 : decode cX6_note 131 = .ok (.aload_n 0, 1) := by decide +kernel
theorem dX6_note_132 : decode cX6_note 132 = .ok (.dup, 1) := by decide +kernel
theorem dX6_note_133 : decode cX6_note 133 = .ok (.getfield 28, 3) := by decide +kernel
theorem dX6_note_136 : decode cX6_note 136 = .ok (.iconst 1, 1) := by decide +kernel
theorem dX6_note_137 : decode cX6_note 137 = .ok (.iadd, 1) := by decide +kernel
theorem dX6_note_138 : decode cX6_note 138 = .ok (.putfield 28, 3) := by decide +kernel
theorem dX6_note_141 : decode cX6_note 141 = .ok (.return_, 1) := by decide +kernel
set_option maxRecDepth 20000 in
theorem ggX6_told_X6_isEntry : GoodIn wsX6_told wsX6_isEntry := goodIn_r _ [9, 10, 11, 12, 13, 14, 15, 16, 17, 18, 19, 20] (by decide +kernel) (by decide +kernel)
set_option maxRecDepth 20000 in
theorem gX6_told_X6_isEntry : GoodIn wsX6_told (wsV RX6 49 RX6 yX6_isEntry wsX6_isEntry) := goodIn_app (goodIn_of _ (by decide +kernel)) ggX6_told_X6_isEntry
theorem dX6_told_0 : decode cX6_told 0 = .ok (.aload_n 0, 1) := by decide +kernel
theorem dX6_told_1 : decode cX6_told 1 = .ok (.iload_n 1, 1) := by decide +kernel
theorem dX6_told_2 : decode cX6_told 2 = .ok (.invokevirtual 49, 3) := by decide +kernel
theorem dX6_told_5 : decode cX6_told 5 = .ok (.ifCond .ne 5, 3) := by decide +kernel
theorem dX6_told_8 : decode cX6_told 8 = .ok (.iconst (-1), 1) := by decide +kernel
theorem dX6_told_9 : decode cX6_told 9 = .ok (.ireturn, 1) := by decide +kernel
theorem dX6_told_10 : decode cX6_told 10 = .ok (.iload_n 2, 1) := by decide +kernel
theorem dX6_told_11 : decode cX6_told 11 = .ok (.tableswitch 57 0 3 #[29, 36, 43, 50], 29) := by decide +kernel
theorem dX6_told_40 : decode cX6_told 40 = .ok (.aload_n 0, 1) := by decide +kernel
theorem dX6_told_41 : decode cX6_told 41 = .ok (.getfield 9, 3) := by decide +kernel
theorem dX6_told_44 : decode cX6_told 44 = .ok (.iload_n 1, 1) := by decide +kernel
theorem dX6_told_45 : decode cX6_told 45 = .ok (.iaload, 1) := by decide +kernel
theorem dX6_told_46 : decode cX6_told 46 = .ok (.ireturn, 1) := by decide +kernel
theorem dX6_told_47 : decode cX6_told 47 = .ok (.aload_n 0, 1) := by decide +kernel
theorem dX6_told_48 : decode cX6_told 48 = .ok (.getfield 15, 3) := by decide +kernel
theorem dX6_told_51 : decode cX6_told 51 = .ok (.iload_n 1, 1) := by decide +kernel
theorem dX6_told_52 : decode cX6_told 52 = .ok (.iaload, 1) := by decide +kernel
theorem dX6_told_53 : decode cX6_told 53 = .ok (.ireturn, 1) := by decide +kernel
theorem dX6_told_54 : decode cX6_told 54 = .ok (.aload_n 0, 1) := by decide +kernel
theorem dX6_told_55 : decode cX6_told 55 = .ok (.getfield 18, 3) := by decide +kernel
theorem dX6_told_58 : decode cX6_told 58 = .ok (.iload_n 1, 1) := by decide +kernel
theorem dX6_told_59 : decode cX6_told 59 = .ok (.iaload, 1) := by decide +kernel
theorem dX6_told_60 : decode cX6_told 60 = .ok (.ireturn, 1) := by decide +kernel
theorem dX6_told_61 : decode cX6_told 61 = .ok (.aload_n 0, 1) := by decide +kernel
theorem dX6_told_62 : decode cX6_told 62 = .ok (.getfield 21, 3) := by decide +kernel
theorem dX6_told_65 : decode cX6_told 65 = .ok (.iload_n 1, 1) := by decide +kernel
theorem dX6_told_66 : decode cX6_told 66 = .ok (.iaload, 1) := by decide +kernel
theorem dX6_told_67 : decode cX6_told 67 = .ok (.ireturn, 1) := by decide +kernel
theorem dX6_told_68 : decode cX6_told 68 = .ok (.iconst (-1), 1) := by decide +kernel
theorem dX6_told_69 : decode cX6_told 69 = .ok (.ireturn, 1) := by decide +kernel
set_option maxRecDepth 20000 in
theorem ggX6_link_X6_isEntry : GoodIn wsX6_link wsX6_isEntry := goodIn_r _ [6, 7, 8, 9, 10, 11, 12, 13, 14, 15, 16, 17] (by decide +kernel) (by decide +kernel)
set_option maxRecDepth 20000 in
theorem gX6_link_X6_isEntry : GoodIn wsX6_link (wsV RX6 49 RX6 yX6_isEntry wsX6_isEntry) := goodIn_app (goodIn_of _ (by decide +kernel)) ggX6_link_X6_isEntry
theorem dX6_link_0 : decode cX6_link 0 = .ok (.aload_n 0, 1) := by decide +kernel
theorem dX6_link_1 : decode cX6_link 1 = .ok (.iload_n 1, 1) := by decide +kernel
theorem dX6_link_2 : decode cX6_link 2 = .ok (.invokevirtual 49, 3) := by decide +kernel
theorem dX6_link_5 : decode cX6_link 5 = .ok (.ifCond .eq 12, 3) := by decide +kernel
theorem dX6_link_8 : decode cX6_link 8 = .ok (.aload_n 0, 1) := by decide +kernel
theorem dX6_link_9 : decode cX6_link 9 = .ok (.getfield 24, 3) := by decide +kernel
theorem dX6_link_12 : decode cX6_link 12 = .ok (.iload_n 1, 1) := by decide +kernel
theorem dX6_link_13 : decode cX6_link 13 = .ok (.laload, 1) := by decide +kernel
theorem dX6_link_14 : decode cX6_link 14 = .ok (.goto 4, 3) := by decide +kernel
theorem dX6_link_17 : decode cX6_link 17 = .ok (.lconst 0, 1) := by decide +kernel
theorem dX6_link_18 : decode cX6_link 18 = .ok (.lreturn, 1) := by decide +kernel
theorem dX6_readings_0 : decode cX6_readings 0 = .ok (.iconst 0, 1) := by decide +kernel
theorem dX6_readings_1 : decode cX6_readings 1 = .ok (.istore 4, 2) := by decide +kernel
theorem dX6_readings_3 : decode cX6_readings 3 = .ok (.iconst 0, 1) := by decide +kernel
theorem dX6_readings_4 : decode cX6_readings 4 = .ok (.istore 5, 2) := by decide +kernel
theorem dX6_readings_6 : decode cX6_readings 6 = .ok (.iload 5, 2) := by decide +kernel
theorem dX6_readings_8 : decode cX6_readings 8 = .ok (.aload_n 0, 1) := by decide +kernel
theorem dX6_readings_9 : decode cX6_readings 9 = .ok (.getfield 28, 3) := by decide +kernel
theorem dX6_readings_12 : decode cX6_readings 12 = .ok (.if_icmp .ge 53, 3) := by decide +kernel
theorem dX6_readings_15 : decode cX6_readings 15 = .ok (.iload 5, 2) := by decide +kernel
theorem dX6_readings_17 : decode cX6_readings 17 = .ok (.sipush 200, 3) := by decide +kernel
theorem dX6_readings_20 : decode cX6_readings 20 = .ok (.if_icmp .ge 45, 3) := by decide +kernel
theorem dX6_readings_23 : decode cX6_readings 23 = .ok (.aload_n 0, 1) := by decide +kernel
theorem dX6_readings_24 : decode cX6_readings 24 = .ok (.getfield 15, 3) := by decide +kernel
theorem dX6_readings_27 : decode cX6_readings 27 = .ok (.iload 5, 2) := by decide +kernel
theorem dX6_readings_29 : decode cX6_readings 29 = .ok (.iaload, 1) := by decide +kernel
theorem dX6_readings_30 : decode cX6_readings 30 = .ok (.iload_n 1, 1) := by decide +kernel
theorem dX6_readings_31 : decode cX6_readings 31 = .ok (.if_icmp .ne 28, 3) := by decide +kernel
theorem dX6_readings_34 : decode cX6_readings 34 = .ok (.aload_n 0, 1) := by decide +kernel
theorem dX6_readings_35 : decode cX6_readings 35 = .ok (.getfield 18, 3) := by decide +kernel
theorem dX6_readings_38 : decode cX6_readings 38 = .ok (.iload 5, 2) := by decide +kernel
theorem dX6_readings_40 : decode cX6_readings 40 = .ok (.iaload, 1) := by decide +kernel
theorem dX6_readings_41 : decode cX6_readings 41 = .ok (.iload_n 2, 1) := by decide +kernel
theorem dX6_readings_42 : decode cX6_readings 42 = .ok (.if_icmp .ne 17, 3) := by decide +kernel
theorem dX6_readings_45 : decode cX6_readings 45 = .ok (.aload_n 0, 1) := by decide +kernel
theorem dX6_readings_46 : decode cX6_readings 46 = .ok (.getfield 21, 3) := by decide +kernel
theorem dX6_readings_49 : decode cX6_readings 49 = .ok (.iload 5, 2) := by decide +kernel
theorem dX6_readings_51 : decode cX6_readings 51 = .ok (.iaload, 1) := by decide +kernel
theorem dX6_readings_52 : decode cX6_readings 52 = .ok (.iload_n 3, 1) := by decide +kernel
theorem dX6_readings_53 : decode cX6_readings 53 = .ok (.if_icmp .ne 6, 3) := by decide +kernel
theorem dX6_readings_56 : decode cX6_readings 56 = .ok (.iinc 4 1, 3) := by decide +kernel
theorem dX6_readings_59 : decode cX6_readings 59 = .ok (.iinc 5 1, 3) := by decide +kernel
theorem dX6_readings_62 : decode cX6_readings 62 = .ok (.goto (-56), 3) := by decide +kernel
theorem dX6_readings_65 : decode cX6_readings 65 = .ok (.iload 4, 2) := by decide +kernel
theorem dX6_readings_67 : decode cX6_readings 67 = .ok (.ireturn, 1) := by decide +kernel
set_option maxRecDepth 20000 in
theorem ggX6_isEntry_X8_isBelow : GoodIn wsX6_isEntry wsX8_isBelow := goodIn_r _ [4] (by decide +kernel) (by decide +kernel)
set_option maxRecDepth 20000 in
theorem gX6_isEntry_X8_isBelow_n35 : GoodIn wsX6_isEntry (wsX8_isBelow) := ggX6_isEntry_X8_isBelow
theorem dX6_isEntry_0 : decode cX6_isEntry 0 = .ok (.iload_n 1, 1) := by decide +kernel
theorem dX6_isEntry_1 : decode cX6_isEntry 1 = .ok (.aload_n 0, 1) := by decide +kernel
theorem dX6_isEntry_2 : decode cX6_isEntry 2 = .ok (.getfield 28, 3) := by decide +kernel
theorem dX6_isEntry_5 : decode cX6_isEntry 5 = .ok (.invokestatic 35, 3) := by decide +kernel
theorem dX6_isEntry_8 : decode cX6_isEntry 8 = .ok (.ifCond .eq 14, 3) := by decide +kernel
theorem dX6_isEntry_11 : decode cX6_isEntry 11 = .ok (.iload_n 1, 1) := by decide +kernel
theorem dX6_isEntry_12 : decode cX6_isEntry 12 = .ok (.sipush 200, 3) := by decide +kernel
theorem dX6_isEntry_15 : decode cX6_isEntry 15 = .ok (.if_icmp .ge 7, 3) := by decide +kernel
theorem dX6_isEntry_18 : decode cX6_isEntry 18 = .ok (.iconst 1, 1) := by decide +kernel
theorem dX6_isEntry_19 : decode cX6_isEntry 19 = .ok (.goto 4, 3) := by decide +kernel
theorem dX6_isEntry_22 : decode cX6_isEntry 22 = .ok (.iconst 0, 1) := by decide +kernel
theorem dX6_isEntry_23 : decode cX6_isEntry 23 = .ok (.ireturn, 1) := by decide +kernel
set_option maxRecDepth 20000 in
theorem ggX7_init_X5_length : GoodIn wsX7_init wsX5_length := goodIn_r _ [17, 18, 37, 38] (by decide +kernel) (by decide +kernel)
set_option maxRecDepth 20000 in
theorem gX7_init_X5_length : GoodIn wsX7_init (wsV RX7 11 RX5 yX5_length wsX5_length) := goodIn_app (goodIn_of _ (by decide +kernel)) ggX7_init_X5_length
set_option maxRecDepth 20000 in
theorem ggX7_init_X5_init : GoodIn wsX7_init wsX5_init := goodIn_r _ [21, 22, 2, 3, 23, 9, 10, 11, 24, 25, 37, 38] (by decide +kernel) (by decide +kernel)
set_option maxRecDepth 20000 in
theorem gX7_init_X5_init : GoodIn wsX7_init (wsX5_init) := ggX7_init_X5_init
set_option maxRecDepth 20000 in
theorem ggX7_init_X5_get : GoodIn wsX7_init wsX5_get := goodIn_r _ [29, 18, 25, 30, 31, 32, 37, 38] (by decide +kernel) (by decide +kernel)
set_option maxRecDepth 20000 in
theorem gX7_init_X5_get : GoodIn wsX7_init (wsV RX7 34 RX5 yX5_get wsX5_get) := goodIn_app (goodIn_of _ (by decide +kernel)) ggX7_init_X5_get
set_option maxRecDepth 20000 in
theorem ggX7_init_X5_put : GoodIn wsX7_init wsX5_put := goodIn_r _ [36, 18, 25, 30, 31, 32, 37, 38] (by decide +kernel) (by decide +kernel)
set_option maxRecDepth 20000 in
theorem gX7_init_X5_put : GoodIn wsX7_init (wsV RX7 38 RX5 yX5_put wsX5_put) := goodIn_app (goodIn_of _ (by decide +kernel)) ggX7_init_X5_put
theorem dX7_init_0 : decode cX7_init 0 = .ok (.aload_n 0, 1) := by decide +kernel
theorem dX7_init_1 : decode cX7_init 1 = .ok (.invokespecial 3, 3) := by decide +kernel
theorem dX7_init_4 : decode cX7_init 4 = .ok (.aload_n 0, 1) := by decide +kernel
theorem dX7_init_5 : decode cX7_init 5 = .ok (.new 9, 3) := by decide +kernel
theorem dX7_init_8 : decode cX7_init 8 = .ok (.dup, 1) := by decide +kernel
theorem dX7_init_9 : decode cX7_init 9 = .ok (.aload_n 1, 1) := by decide +kernel
theorem dX7_init_10 : decode cX7_init 10 = .ok (.invokevirtual 11, 3) := by decide +kernel
theorem dX7_init_13 : decode cX7_init 13 = .ok (.invokespecial 15, 3) := by decide +kernel
theorem dX7_init_16 : decode cX7_init 16 = .ok (.putfield 18, 3) := by decide +kernel
theorem dX7_init_19 : decode cX7_init 19 = .ok (.aload_n 0, 1) := by decide +kernel
theorem dX7_init_20 : decode cX7_init 20 = .ok (.aload_n 1, 1) := by decide +kernel
theorem dX7_init_21 : decode cX7_init 21 = .ok (.invokevirtual 11, 3) := by decide +kernel
theorem dX7_init_24 : decode cX7_init 24 = .ok (.iconst 0, 1) := by decide +kernel
theorem dX7_init_25 : decode cX7_init 25 = .ok (.invokestatic 24, 3) := by decide +kernel
theorem dX7_init_28 : decode cX7_init 28 = .ok (.newarray .boolean, 2) := by decide +kernel
theorem dX7_init_30 : decode cX7_init 30 = .ok (.putfield 30, 3) := by decide +kernel
theorem dX7_init_33 : decode cX7_init 33 = .ok (.iconst 0, 1) := by decide +kernel
theorem dX7_init_34 : decode cX7_init 34 = .ok (.istore_n 2, 1) := by decide +kernel
theorem dX7_init_35 : decode cX7_init 35 = .ok (.iload_n 2, 1) := by decide +kernel
theorem dX7_init_36 : decode cX7_init 36 = .ok (.aload_n 1, 1) := by decide +kernel
theorem dX7_init_37 : decode cX7_init 37 = .ok (.invokevirtual 11, 3) := by decide +kernel
theorem dX7_init_40 : decode cX7_init 40 = .ok (.if_icmp .ge 21, 3) := by decide +kernel
theorem dX7_init_43 : decode cX7_init 43 = .ok (.aload_n 0, 1) := by decide +kernel
theorem dX7_init_44 : decode cX7_init 44 = .ok (.getfield 18, 3) := by decide +kernel
theorem dX7_init_47 : decode cX7_init 47 = .ok (.aload_n 1, 1) := by decide +kernel
theorem dX7_init_48 : decode cX7_init 48 = .ok (.iload_n 2, 1) := by decide +kernel
theorem dX7_init_49 : decode cX7_init 49 = .ok (.invokevirtual 34, 3) := by decide +kernel
theorem dX7_init_52 : decode cX7_init 52 = .ok (.invokevirtual 38, 3) := by decide +kernel
theorem dX7_init_55 : decode cX7_init 55 = .ok (.iinc 2 1, 3) := by decide +kernel
theorem dX7_init_58 : decode cX7_init 58 = .ok (.goto (-23), 3) := by decide +kernel
theorem dX7_init_61 : decode cX7_init 61 = .ok (.return_, 1) := by decide +kernel
set_option maxRecDepth 20000 in
theorem ggX7_length_X5_length : GoodIn wsX7_length wsX5_length := goodIn_r _ [6, 7, 10, 11] (by decide +kernel) (by decide +kernel)
set_option maxRecDepth 20000 in
theorem gX7_length_X5_length : GoodIn wsX7_length (wsV RX7 11 RX5 yX5_length wsX5_length) := goodIn_app (goodIn_of _ (by decide +kernel)) ggX7_length_X5_length
theorem dX7_length_0 : decode cX7_length 0 = .ok (.aload_n 0, 1) := by decide +kernel
theorem dX7_length_1 : decode cX7_length 1 = .ok (.getfield 18, 3) := by decide +kernel
theorem dX7_length_4 : decode cX7_length 4 = .ok (.invokevirtual 11, 3) := by decide +kernel
theorem dX7_length_7 : decode cX7_length 7 = .ok (.ireturn, 1) := by decide +kernel
set_option maxRecDepth 20000 in
theorem ggX7_isBlack_X8_isBelow : GoodIn wsX7_isBlack wsX8_isBelow := goodIn_r _ [4] (by decide +kernel) (by decide +kernel)
set_option maxRecDepth 20000 in
theorem gX7_isBlack_X8_isBelow_n41 : GoodIn wsX7_isBlack (wsX8_isBelow) := ggX7_isBlack_X8_isBelow
theorem dX7_isBlack_0 : decode cX7_isBlack 0 = .ok (.iload_n 1, 1) := by decide +kernel
theorem dX7_isBlack_1 : decode cX7_isBlack 1 = .ok (.aload_n 0, 1) := by decide +kernel
theorem dX7_isBlack_2 : decode cX7_isBlack 2 = .ok (.getfield 30, 3) := by decide +kernel
theorem dX7_isBlack_5 : decode cX7_isBlack 5 = .ok (.arraylength, 1) := by decide +kernel
theorem dX7_isBlack_6 : decode cX7_isBlack 6 = .ok (.invokestatic 41, 3) := by decide +kernel
theorem dX7_isBlack_9 : decode cX7_isBlack 9 = .ok (.ifCond .eq 16, 3) := by decide +kernel
theorem dX7_isBlack_12 : decode cX7_isBlack 12 = .ok (.aload_n 0, 1) := by decide +kernel
theorem dX7_isBlack_13 : decode cX7_isBlack 13 = .ok (.getfield 30, 3) := by decide +kernel
theorem dX7_isBlack_16 : decode cX7_isBlack 16 = .ok (.iload_n 1, 1) := by decide +kernel
theorem dX7_isBlack_17 : decode cX7_isBlack 17 = .ok (.baload, 1) := by decide +kernel
theorem dX7_isBlack_18 : decode cX7_isBlack 18 = .ok (.ifCond .eq 7, 3) := by decide +kernel
theorem dX7_isBlack_21 : decode cX7_isBlack 21 = .ok (.iconst 1, 1) := by decide +kernel
theorem dX7_isBlack_22 : decode cX7_isBlack 22 = .ok (.goto 4, 3) := by decide +kernel
theorem dX7_isBlack_25 : decode cX7_isBlack 25 = .ok (.iconst 0, 1) := by decide +kernel
theorem dX7_isBlack_26 : decode cX7_isBlack 26 = .ok (.ireturn, 1) := by decide +kernel
set_option maxRecDepth 20000 in
theorem ggX7_plain_X7_isBlack : GoodIn wsX7_plain wsX7_isBlack := goodIn_r _ [6, 7, 8, 9, 10, 18, 19] (by decide +kernel) (by decide +kernel)
set_option maxRecDepth 20000 in
theorem gX7_plain_X7_isBlack : GoodIn wsX7_plain (wsV RX7 45 RX7 yX7_isBlack wsX7_isBlack) := goodIn_app (goodIn_of _ (by decide +kernel)) ggX7_plain_X7_isBlack
set_option maxRecDepth 20000 in
theorem ggX7_plain_X5_get : GoodIn wsX7_plain wsX5_get := goodIn_r _ [15, 16, 17, 8, 9, 10, 20, 21] (by decide +kernel) (by decide +kernel)
set_option maxRecDepth 20000 in
theorem gX7_plain_X5_get : GoodIn wsX7_plain (wsV RX7 34 RX5 yX5_get wsX5_get) := goodIn_app (goodIn_of _ (by decide +kernel)) ggX7_plain_X5_get
theorem dX7_plain_0 : decode cX7_plain 0 = .ok (.aload_n 0, 1) := by decide +kernel
theorem dX7_plain_1 : decode cX7_plain 1 = .ok (.iload_n 1, 1) := by decide +kernel
theorem dX7_plain_2 : decode cX7_plain 2 = .ok (.invokevirtual 45, 3) := by decide +kernel
theorem dX7_plain_5 : decode cX7_plain 5 = .ok (.ifCond .eq 8, 3) := by decide +kernel
theorem dX7_plain_8 : decode cX7_plain 8 = .ok (.bipush 35, 2) := by decide +kernel
theorem dX7_plain_10 : decode cX7_plain 10 = .ok (.goto 11, 3) := by decide +kernel
theorem dX7_plain_13 : decode cX7_plain 13 = .ok (.aload_n 0, 1) := by decide +kernel
theorem dX7_plain_14 : decode cX7_plain 14 = .ok (.getfield 18, 3) := by decide +kernel
theorem dX7_plain_17 : decode cX7_plain 17 = .ok (.iload_n 1, 1) := by decide +kernel
theorem dX7_plain_18 : decode cX7_plain 18 = .ok (.invokevirtual 34, 3) := by decide +kernel
theorem dX7_plain_21 : decode cX7_plain 21 = .ok (.ireturn, 1) := by decide +kernel
theorem dX7_blackenSpan_0 : decode cX7_blackenSpan 0 = .ok (.iconst 0, 1) := by decide +kernel
theorem dX7_blackenSpan_1 : decode cX7_blackenSpan 1 = .ok (.istore_n 3, 1) := by decide +kernel
theorem dX7_blackenSpan_2 : decode cX7_blackenSpan 2 = .ok (.iconst 0, 1) := by decide +kernel
theorem dX7_blackenSpan_3 : decode cX7_blackenSpan 3 = .ok (.istore 4, 2) := by decide +kernel
theorem dX7_blackenSpan_5 : decode cX7_blackenSpan 5 = .ok (.iload 4, 2) := by decide +kernel
theorem dX7_blackenSpan_7 : decode cX7_blackenSpan 7 = .ok (.aload_n 0, 1) := by decide +kernel
theorem dX7_blackenSpan_8 : decode cX7_blackenSpan 8 = .ok (.getfield 30, 3) := by decide +kernel
theorem dX7_blackenSpan_11 : decode cX7_blackenSpan 11 = .ok (.arraylength, 1) := by decide +kernel
theorem dX7_blackenSpan_12 : decode cX7_blackenSpan 12 = .ok (.if_icmp .ge 42, 3) := by decide +kernel
theorem dX7_blackenSpan_15 : decode cX7_blackenSpan 15 = .ok (.iload 4, 2) := by decide +kernel
theorem dX7_blackenSpan_17 : decode cX7_blackenSpan 17 = .ok (.iload_n 1, 1) := by decide +kernel
theorem dX7_blackenSpan_18 : decode cX7_blackenSpan 18 = .ok (.if_icmp .lt 17, 3) := by decide +kernel
theorem dX7_blackenSpan_21 : decode cX7_blackenSpan 21 = .ok (.iload 4, 2) := by decide +kernel
theorem dX7_blackenSpan_23 : decode cX7_blackenSpan 23 = .ok (.iload_n 2, 1) := by decide +kernel
theorem dX7_blackenSpan_24 : decode cX7_blackenSpan 24 = .ok (.if_icmp .ge 11, 3) := by decide +kernel
theorem dX7_blackenSpan_27 : decode cX7_blackenSpan 27 = .ok (.aload_n 0, 1) := by decide +kernel
theorem dX7_blackenSpan_28 : decode cX7_blackenSpan 28 = .ok (.getfield 30, 3) := by decide +kernel
theorem dX7_blackenSpan_31 : decode cX7_blackenSpan 31 = .ok (.iload 4, 2) := by decide +kernel
theorem dX7_blackenSpan_33 : decode cX7_blackenSpan 33 = .ok (.iconst 1, 1) := by decide +kernel
theorem dX7_blackenSpan_34 : decode cX7_blackenSpan 34 = .ok (.bastore, 1) := by decide +kernel
theorem dX7_blackenSpan_35 : decode cX7_blackenSpan 35 = .ok (.aload_n 0, 1) := by decide +kernel
theorem dX7_blackenSpan_36 : decode cX7_blackenSpan 36 = .ok (.getfield 30, 3) := by decide +kernel
theorem dX7_blackenSpan_39 : decode cX7_blackenSpan 39 = .ok (.iload 4, 2) := by decide +kernel
theorem dX7_blackenSpan_41 : decode cX7_blackenSpan 41 = .ok (.baload, 1) := by decide +kernel
theorem dX7_blackenSpan_42 : decode cX7_blackenSpan 42 = .ok (.ifCond .eq 6, 3) := by decide +kernel
theorem dX7_blackenSpan_45 : decode cX7_blackenSpan 45 = .ok (.iinc 3 1, 3) := by decide +kernel
theorem dX7_blackenSpan_48 : decode cX7_blackenSpan 48 = .ok (.iinc 4 1, 3) := by decide +kernel
theorem dX7_blackenSpan_51 : decode cX7_blackenSpan 51 = .ok (.goto (-46), 3) := by decide +kernel
theorem dX7_blackenSpan_54 : decode cX7_blackenSpan 54 = .ok (.iload_n 3, 1) := by decide +kernel
theorem dX7_blackenSpan_55 : decode cX7_blackenSpan 55 = .ok (.ireturn, 1) := by decide +kernel
set_option maxRecDepth 20000 in
theorem ggX7_holds_X7_length : GoodIn wsX7_holds wsX7_length := goodIn_r _ [5, 6, 7, 8, 9, 10, 11, 12, 30, 31, 32, 33] (by decide +kernel) (by decide +kernel)
set_option maxRecDepth 20000 in
theorem gX7_holds_X7_length : GoodIn wsX7_holds (wsV RX7 49 RX7 yX7_length wsX7_length) := goodIn_app (goodIn_of _ (by decide +kernel)) ggX7_holds_X7_length
set_option maxRecDepth 20000 in
theorem ggX7_holds_X5_length : GoodIn wsX7_holds wsX5_length := goodIn_r _ [11, 12, 32, 33] (by decide +kernel) (by decide +kernel)
set_option maxRecDepth 20000 in
theorem gX7_holds_X5_length : GoodIn wsX7_holds (wsV RX7 11 RX5 yX5_length wsX5_length) := goodIn_app (goodIn_of _ (by decide +kernel)) ggX7_holds_X5_length
set_option maxRecDepth 20000 in
theorem ggX7_holds_X7_holdsAt : GoodIn wsX7_holds wsX7_holdsAt := goodIn_r _ [16, 6, 7, 8, 9, 10, 11, 12, 17, 18, 19, 4, 20, 21, 22, 23, 24, 25, 26, 27, 28, 29, 30, 31, 32, 33] (by decide +kernel) (by decide +kernel)
set_option maxRecDepth 20000 in
theorem gX7_holds_X7_holdsAt : GoodIn wsX7_holds (wsV RX7 50 RX7 yX7_holdsAt wsX7_holdsAt) := goodIn_app (goodIn_of _ (by decide +kernel)) ggX7_holds_X7_holdsAt
theorem dX7_holds_0 : decode cX7_holds 0 = .ok (.aload_n 0, 1) := by decide +kernel
theorem dX7_holds_1 : decode cX7_holds 1 = .ok (.invokevirtual 49, 3) := by decide +kernel
theorem dX7_holds_4 : decode cX7_holds 4 = .ok (.aload_n 1, 1) := by decide +kernel
theorem dX7_holds_5 : decode cX7_holds 5 = .ok (.invokevirtual 11, 3) := by decide +kernel
theorem dX7_holds_8 : decode cX7_holds 8 = .ok (.isub, 1) := by decide +kernel
theorem dX7_holds_9 : decode cX7_holds 9 = .ok (.istore_n 2, 1) := by decide +kernel
theorem dX7_holds_10 : decode cX7_holds 10 = .ok (.iconst 0, 1) := by decide +kernel
theorem dX7_holds_11 : decode cX7_holds 11 = .ok (.istore_n 3, 1) := by decide +kernel
theorem dX7_holds_12 : decode cX7_holds 12 = .ok (.iload_n 3, 1) := by decide +kernel
theorem dX7_holds_13 : decode cX7_holds 13 = .ok (.iload_n 2, 1) := by decide +kernel
theorem dX7_holds_14 : decode cX7_holds 14 = .ok (.if_icmp .gt 20, 3) := by decide +kernel
theorem dX7_holds_17 : decode cX7_holds 17 = .ok (.aload_n 0, 1) := by decide +kernel
theorem dX7_holds_18 : decode cX7_holds 18 = .ok (.iload_n 3, 1) := by decide +kernel
theorem dX7_holds_19 : decode cX7_holds 19 = .ok (.aload_n 1, 1) := by decide +kernel
theorem dX7_holds_20 : decode cX7_holds 20 = .ok (.invokevirtual 50, 3) := by decide +kernel
theorem dX7_holds_23 : decode cX7_holds 23 = .ok (.ifCond .eq 5, 3) := by decide +kernel
theorem dX7_holds_26 : decode cX7_holds 26 = .ok (.iconst 1, 1) := by decide +kernel
theorem dX7_holds_27 : decode cX7_holds 27 = .ok (.ireturn, 1) := by decide +kernel
theorem dX7_holds_28 : decode cX7_holds 28 = .ok (.iinc 3 1, 3) := by decide +kernel
theorem dX7_holds_31 : decode cX7_holds 31 = .ok (.goto (-19), 3) := by decide +kernel
theorem dX7_holds_34 : decode cX7_holds 34 = .ok (.iconst 0, 1) := by decide +kernel
theorem dX7_holds_35 : decode cX7_holds 35 = .ok (.ireturn, 1) := by decide +kernel
set_option maxRecDepth 20000 in
theorem ggX7_holdsAt_X5_length : GoodIn wsX7_holdsAt wsX5_length := goodIn_r _ [6, 7, 24, 25] (by decide +kernel) (by decide +kernel)
set_option maxRecDepth 20000 in
theorem gX7_holdsAt_X5_length : GoodIn wsX7_holdsAt (wsV RX7 11 RX5 yX5_length wsX5_length) := goodIn_app (goodIn_of _ (by decide +kernel)) ggX7_holdsAt_X5_length
set_option maxRecDepth 20000 in
theorem ggX7_holdsAt_X7_isBlack : GoodIn wsX7_holdsAt wsX7_isBlack := goodIn_r _ [12, 13, 14, 15, 16, 22, 23] (by decide +kernel) (by decide +kernel)
set_option maxRecDepth 20000 in
theorem gX7_holdsAt_X7_isBlack : GoodIn wsX7_holdsAt (wsV RX7 45 RX7 yX7_isBlack wsX7_isBlack) := goodIn_app (goodIn_of _ (by decide +kernel)) ggX7_holdsAt_X7_isBlack
set_option maxRecDepth 20000 in
theorem ggX7_holdsAt_X5_get : GoodIn wsX7_holdsAt wsX5_get := goodIn_r _ [20, 7, 21, 14, 15, 16, 24, 25] (by decide +kernel) (by decide +kernel)
set_option maxRecDepth 20000 in
theorem gX7_holdsAt_X5_get : GoodIn wsX7_holdsAt (wsV RX7 34 RX5 yX5_get wsX5_get) := goodIn_app (goodIn_of _ (by decide +kernel)) ggX7_holdsAt_X5_get
theorem dX7_holdsAt_0 : decode cX7_holdsAt 0 = .ok (.iconst 0, 1) := by decide +kernel
theorem dX7_holdsAt_1 : decode cX7_holdsAt 1 = .ok (.istore_n 3, 1) := by decide +kernel
theorem dX7_holdsAt_2 : decode cX7_holdsAt 2 = .ok (.iload_n 3, 1) := by decide +kernel
theorem dX7_holdsAt_3 : decode cX7_holdsAt 3 = .ok (.aload_n 2, 1) := by decide +kernel
theorem dX7_holdsAt_4 : decode cX7_holdsAt 4 = .ok (.invokevirtual 11, 3) := by decide +kernel
theorem dX7_holdsAt_7 : decode cX7_holdsAt 7 = .ok (.if_icmp .ge 39, 3) := by decide +kernel
theorem dX7_holdsAt_10 : decode cX7_holdsAt 10 = .ok (.aload_n 0, 1) := by decide +kernel
theorem dX7_holdsAt_11 : decode cX7_holdsAt 11 = .ok (.iload_n 1, 1) := by decide +kernel
theorem dX7_holdsAt_12 : decode cX7_holdsAt 12 = .ok (.iload_n 3, 1) := by decide +kernel
theorem dX7_holdsAt_13 : decode cX7_holdsAt 13 = .ok (.iadd, 1) := by decide +kernel
theorem dX7_holdsAt_14 : decode cX7_holdsAt 14 = .ok (.invokevirtual 45, 3) := by decide +kernel
theorem dX7_holdsAt_17 : decode cX7_holdsAt 17 = .ok (.ifCond .ne 21, 3) := by decide +kernel
theorem dX7_holdsAt_20 : decode cX7_holdsAt 20 = .ok (.aload_n 0, 1) := by decide +kernel
theorem dX7_holdsAt_21 : decode cX7_holdsAt 21 = .ok (.getfield 18, 3) := by decide +kernel
theorem dX7_holdsAt_24 : decode cX7_holdsAt 24 = .ok (.iload_n 1, 1) := by decide +kernel
theorem dX7_holdsAt_25 : decode cX7_holdsAt 25 = .ok (.iload_n 3, 1) := by decide +kernel
theorem dX7_holdsAt_26 : decode cX7_holdsAt 26 = .ok (.iadd, 1) := by decide +kernel
theorem dX7_holdsAt_27 : decode cX7_holdsAt 27 = .ok (.invokevirtual 34, 3) := by decide +kernel
theorem dX7_holdsAt_30 : decode cX7_holdsAt 30 = .ok (.aload_n 2, 1) := by decide +kernel
theorem dX7_holdsAt_31 : decode cX7_holdsAt 31 = .ok (.iload_n 3, 1) := by decide +kernel
theorem dX7_holdsAt_32 : decode cX7_holdsAt 32 = .ok (.invokevirtual 34, 3) := by decide +kernel
theorem dX7_holdsAt_35 : decode cX7_holdsAt 35 = .ok (.if_icmp .eq 5, 3) := by decide +kernel
theorem dX7_holdsAt_38 : decode cX7_holdsAt 38 = .ok (.iconst 0, 1) := by decide +kernel
theorem dX7_holdsAt_39 : decode cX7_holdsAt 39 = .ok (.ireturn, 1) := by decide +kernel
theorem dX7_holdsAt_40 : decode cX7_holdsAt 40 = .ok (.iinc 3 1, 3) := by decide +kernel
theorem dX7_holdsAt_43 : decode cX7_holdsAt 43 = .ok (.goto (-41), 3) := by decide +kernel
theorem dX7_holdsAt_46 : decode cX7_holdsAt 46 = .ok (.iconst 1, 1) := by decide +kernel
theorem dX7_holdsAt_47 : decode cX7_holdsAt 47 = .ok (.ireturn, 1) := by decide +kernel
set_option maxRecDepth 20000 in
theorem ggX8_init_X5_init : GoodIn wsX8_init wsX5_init := goodIn_r _ [26, 27, 2, 3, 28, 29, 30, 31, 32, 33, 48, 49] (by decide +kernel) (by decide +kernel)
set_option maxRecDepth 20000 in
theorem gX8_init_X5_init : GoodIn wsX8_init (wsX5_init) := ggX8_init_X5_init
set_option maxRecDepth 20000 in
theorem ggX8_init_X4_init : GoodIn wsX8_init wsX4_init := goodIn_r _ [35, 36, 2, 3, 22, 37, 38, 62, 63] (by decide +kernel) (by decide +kernel)
set_option maxRecDepth 20000 in
theorem gX8_init_X4_init_n20 : GoodIn wsX8_init (wsX4_init) := ggX8_init_X4_init
set_option maxRecDepth 20000 in
theorem ggX8_init_X6_init : GoodIn wsX8_init wsX6_init := goodIn_r _ [40, 41, 2, 3, 22, 42, 43, 44, 45, 46, 47, 64, 65, 66, 67, 68, 69, 70] (by decide +kernel) (by decide +kernel)
set_option maxRecDepth 20000 in
theorem gX8_init_X6_init_n40 : GoodIn wsX8_init (wsX6_init) := ggX8_init_X6_init
theorem dX8_init_0 : decode cX8_init 0 = .ok (.aload_n 0, 1) := by decide +kernel
theorem dX8_init_1 : decode cX8_init 1 = .ok (.invokespecial 3, 3) := by decide +kernel
theorem dX8_init_4 : decode cX8_init 4 = .ok (.aload_n 0, 1) := by decide +kernel
theorem dX8_init_5 : decode cX8_init 5 = .ok (.new 9, 3) := by decide +kernel
theorem dX8_init_8 : decode cX8_init 8 = .ok (.dup, 1) := by decide +kernel
theorem dX8_init_9 : decode cX8_init 9 = .ok (.bipush 40, 2) := by decide +kernel
theorem dX8_init_11 : decode cX8_init 11 = .ok (.invokespecial 11, 3) := by decide +kernel
theorem dX8_init_14 : decode cX8_init 14 = .ok (.putfield 14, 3) := by decide +kernel
theorem dX8_init_17 : decode cX8_init 17 = .ok (.aload_n 0, 1) := by decide +kernel
theorem dX8_init_18 : decode cX8_init 18 = .ok (.new 18, 3) := by decide +kernel
theorem dX8_init_21 : decode cX8_init 21 = .ok (.dup, 1) := by decide +kernel
theorem dX8_init_22 : decode cX8_init 22 = .ok (.invokespecial 20, 3) := by decide +kernel
theorem dX8_init_25 : decode cX8_init 25 = .ok (.putfield 21, 3) := by decide +kernel
theorem dX8_init_28 : decode cX8_init 28 = .ok (.aload_n 0, 1) := by decide +kernel
theorem dX8_init_29 : decode cX8_init 29 = .ok (.bipush 8, 2) := by decide +kernel
theorem dX8_init_31 : decode cX8_init 31 = .ok (.anewarray 25, 3) := by decide +kernel
theorem dX8_init_34 : decode cX8_init 34 = .ok (.putfield 27, 3) := by decide +kernel
theorem dX8_init_37 : decode cX8_init 37 = .ok (.aload_n 0, 1) := by decide +kernel
theorem dX8_init_38 : decode cX8_init 38 = .ok (.bipush 6, 2) := by decide +kernel
theorem dX8_init_40 : decode cX8_init 40 = .ok (.anewarray 9, 3) := by decide +kernel
theorem dX8_init_43 : decode cX8_init 43 = .ok (.putfield 31, 3) := by decide +kernel
theorem dX8_init_46 : decode cX8_init 46 = .ok (.iconst 0, 1) := by decide +kernel
theorem dX8_init_47 : decode cX8_init 47 = .ok (.istore_n 1, 1) := by decide +kernel
theorem dX8_init_48 : decode cX8_init 48 = .ok (.iload_n 1, 1) := by decide +kernel
theorem dX8_init_49 : decode cX8_init 49 = .ok (.aload_n 0, 1) := by decide +kernel
theorem dX8_init_50 : decode cX8_init 50 = .ok (.getfield 31, 3) := by decide +kernel
theorem dX8_init_53 : decode cX8_init 53 = .ok (.arraylength, 1) := by decide +kernel
theorem dX8_init_54 : decode cX8_init 54 = .ok (.if_icmp .ge 24, 3) := by decide +kernel
theorem dX8_init_57 : decode cX8_init 57 = .ok (.aload_n 0, 1) := by decide +kernel
theorem dX8_init_58 : decode cX8_init 58 = .ok (.getfield 31, 3) := by decide +kernel
theorem dX8_init_61 : decode cX8_init 61 = .ok (.iload_n 1, 1) := by decide +kernel
theorem dX8_init_62 : decode cX8_init 62 = .ok (.new 9, 3) := by decide +kernel
theorem dX8_init_65 : decode cX8_init 65 = .ok (.dup, 1) := by decide +kernel
theorem dX8_init_66 : decode cX8_init 66 = .ok (.bipush 80, 2) := by decide +kernel
theorem dX8_init_68 : decode cX8_init 68 = .ok (.invokespecial 11, 3) := by decide +kernel
theorem dX8_init_71 : decode cX8_init 71 = .ok (.aastore, 1) := by decide +kernel
theorem dX8_init_72 : decode cX8_init 72 = .ok (.iinc 1 1, 3) := by decide +kernel
theorem dX8_init_75 : decode cX8_init 75 = .ok (.goto (-27), 3) := by decide +kernel
theorem dX8_init_78 : decode cX8_init 78 = .ok (.aload_n 0, 1) := by decide +kernel
theorem dX8_init_79 : decode cX8_init 79 = .ok (.new 9, 3) := by decide +kernel
theorem dX8_init_82 : decode cX8_init 82 = .ok (.dup, 1) := by decide +kernel
theorem dX8_init_83 : decode cX8_init 83 = .ok (.bipush 80, 2) := by decide +kernel
theorem dX8_init_85 : decode cX8_init 85 = .ok (.invokespecial 11, 3) := by decide +kernel
theorem dX8_init_88 : decode cX8_init 88 = .ok (.putfield 35, 3) := by decide +kernel
theorem dX8_init_91 : decode cX8_init 91 = .ok (.aload_n 0, 1) := by decide +kernel
theorem dX8_init_92 : decode cX8_init 92 = .ok (.new 38, 3) := by decide +kernel
theorem dX8_init_95 : decode cX8_init 95 = .ok (.dup, 1) := by decide +kernel
theorem dX8_init_96 : decode cX8_init 96 = .ok (.invokespecial 40, 3) := by decide +kernel
theorem dX8_init_99 : decode cX8_init 99 = .ok (.putfield 41, 3) := by decide +kernel
theorem dX8_init_102 : decode cX8_init 102 = .ok (.aload_n 0, 1) := by decide +kernel
theorem dX8_init_103 : decode cX8_init 103 = .ok (.bipush 30, 2) := by decide +kernel
theorem dX8_init_105 : decode cX8_init 105 = .ok (.anewarray 45, 3) := by decide +kernel
theorem dX8_init_108 : decode cX8_init 108 = .ok (.putfield 47, 3) := by decide +kernel
theorem dX8_init_111 : decode cX8_init 111 = .ok (.aload_n 0, 1) := by decide +kernel
theorem dX8_init_112 : decode cX8_init 112 = .ok (.bipush 6, 2) := by decide +kernel
theorem dX8_init_114 : decode cX8_init 114 = .ok (.newarray .int, 2) := by decide +kernel
theorem dX8_init_116 : decode cX8_init 116 = .ok (.putfield 51, 3) := by decide +kernel
theorem dX8_init_119 : decode cX8_init 119 = .ok (.return_, 1) := by decide +kernel
set_option maxRecDepth 20000 in
theorem ggX8_type_X8_byteOf : GoodIn wsX8_type wsX8_byteOf := goodIn_r _ [5] (by decide +kernel) (by decide +kernel)
set_option maxRecDepth 20000 in
theorem gX8_type_X8_byteOf : GoodIn wsX8_type (va_wsS RX8 55 yX8_byteOf wsX8_byteOf) := goodIn_app (goodIn_of _ (by decide +kernel)) ggX8_type_X8_byteOf
set_option maxRecDepth 20000 in
theorem ggX8_type_X5_space : GoodIn wsX8_type wsX5_space := goodIn_r _ [10, 11, 12, 35, 36] (by decide +kernel) (by decide +kernel)
set_option maxRecDepth 20000 in
theorem gX8_type_X5_space : GoodIn wsX8_type (wsV RX8 59 RX5 yX5_space wsX5_space) := goodIn_app (goodIn_of _ (by decide +kernel)) ggX8_type_X5_space
set_option maxRecDepth 20000 in
theorem ggX8_type_X5_put : GoodIn wsX8_type wsX5_put := goodIn_r _ [16, 12, 11, 17, 4, 18, 35, 36] (by decide +kernel) (by decide +kernel)
set_option maxRecDepth 20000 in
theorem gX8_type_X5_put : GoodIn wsX8_type (wsV RX8 63 RX5 yX5_put wsX5_put) := goodIn_app (goodIn_of _ (by decide +kernel)) ggX8_type_X5_put
set_option maxRecDepth 20000 in
theorem ggX8_type_X5_length : GoodIn wsX8_type wsX5_length := goodIn_r _ [22, 12, 35, 36] (by decide +kernel) (by decide +kernel)
set_option maxRecDepth 20000 in
theorem gX8_type_X5_length : GoodIn wsX8_type (wsV RX8 66 RX5 yX5_length wsX5_length) := goodIn_app (goodIn_of _ (by decide +kernel)) ggX8_type_X5_length
theorem dX8_type_0 : decode cX8_type 0 = .ok (.iload_n 3, 1) := by decide +kernel
theorem dX8_type_1 : decode cX8_type 1 = .ok (.iconst 1, 1) := by decide +kernel
theorem dX8_type_2 : decode cX8_type 2 = .ok (.if_icmp .lt 9, 3) := by decide +kernel
theorem dX8_type_5 : decode cX8_type 5 = .ok (.iload_n 3, 1) := by decide +kernel
theorem dX8_type_6 : decode cX8_type 6 = .ok (.bipush 8, 2) := by decide +kernel
theorem dX8_type_8 : decode cX8_type 8 = .ok (.if_icmp .le 5, 3) := by decide +kernel
theorem dX8_type_11 : decode cX8_type 11 = .ok (.iconst (-1), 1) := by decide +kernel
theorem dX8_type_12 : decode cX8_type 12 = .ok (.ireturn, 1) := by decide +kernel
theorem dX8_type_13 : decode cX8_type 13 = .ok (.iload_n 3, 1) := by decide +kernel
theorem dX8_type_14 : decode cX8_type 14 = .ok (.iconst 1, 1) := by decide +kernel
theorem dX8_type_15 : decode cX8_type 15 = .ok (.isub, 1) := by decide +kernel
theorem dX8_type_16 : decode cX8_type 16 = .ok (.istore 4, 2) := by decide +kernel
theorem dX8_type_18 : decode cX8_type 18 = .ok (.iload 4, 2) := by decide +kernel
theorem dX8_type_20 : decode cX8_type 20 = .ok (.ifCond .lt 33, 3) := by decide +kernel

theorem dX8_type_23 : decode cX8_type 23 = .ok (.lload_n 1, 1) := by decide +kernel
theorem dX8_type_24 : decode cX8_type 24 = .ok (.iload 4, 2) := by decide +kernel
theorem dX8_type_26 : decode cX8_type 26 = .ok (.invokestatic 55, 3) := by decide +kernel
theorem dX8_type_29 : decode cX8_type 29 = .ok (.istore 5, 2) := by decide +kernel
theorem dX8_type_31 : decode cX8_type 31 = .ok (.iload 5, 2) := by decide +kernel
theorem dX8_type_33 : decode cX8_type 33 = .ok (.bipush 32, 2) := by decide +kernel
theorem dX8_type_35 : decode cX8_type 35 = .ok (.if_icmp .lt 10, 3) := by decide +kernel
theorem dX8_type_38 : decode cX8_type 38 = .ok (.iload 5, 2) := by decide +kernel
theorem dX8_type_40 : decode cX8_type 40 = .ok (.bipush 126, 2) := by decide +kernel
theorem dX8_type_42 : decode cX8_type 42 = .ok (.if_icmp .le 5, 3) := by decide +kernel
theorem dX8_type_45 : decode cX8_type 45 = .ok (.iconst (-1), 1) := by decide +kernel
theorem dX8_type_46 : decode cX8_type 46 = .ok (.ireturn, 1) := by decide +kernel
theorem dX8_type_47 : decode cX8_type 47 = .ok (.iinc 4 (-1), 3) := by decide +kernel
theorem dX8_type_50 : decode cX8_type 50 = .ok (.goto (-32), 3) := by decide +kernel
theorem dX8_type_53 : decode cX8_type 53 = .ok (.iload_n 3, 1) := by decide +kernel
theorem dX8_type_54 : decode cX8_type 54 = .ok (.aload_n 0, 1) := by decide +kernel
theorem dX8_type_55 : decode cX8_type 55 = .ok (.getfield 14, 3) := by decide +kernel
theorem dX8_type_58 : decode cX8_type 58 = .ok (.invokevirtual 59, 3) := by decide +kernel
theorem dX8_type_61 : decode cX8_type 61 = .ok (.if_icmp .le 6, 3) := by decide +kernel
theorem dX8_type_64 : decode cX8_type 64 = .ok (.bipush (-3), 2) := by decide +kernel
theorem dX8_type_66 : decode cX8_type 66 = .ok (.ireturn, 1) := by decide +kernel
theorem dX8_type_67 : decode cX8_type 67 = .ok (.iload_n 3, 1) := by decide +kernel
theorem dX8_type_68 : decode cX8_type 68 = .ok (.iconst 1, 1) := by decide +kernel
theorem dX8_type_69 : decode cX8_type 69 = .ok (.isub, 1) := by decide +kernel
theorem dX8_type_70 : decode cX8_type 70 = .ok (.istore 4, 2) := by decide +kernel
theorem dX8_type_72 : decode cX8_type 72 = .ok (.iload 4, 2) := by decide +kernel
theorem dX8_type_74 : decode cX8_type 74 = .ok (.ifCond .lt 22, 3) := by decide +kernel
theorem dX8_type_77 : decode cX8_type 77 = .ok (.aload_n 0, 1) := by decide +kernel
theorem dX8_type_78 : decode cX8_type 78 = .ok (.getfield 14, 3) := by decide +kernel
theorem dX8_type_81 : decode cX8_type 81 = .ok (.lload_n 1, 1) := by decide +kernel
theorem dX8_type_82 : decode cX8_type 82 = .ok (.iload 4, 2) := by decide +kernel
theorem dX8_type_84 : decode cX8_type 84 = .ok (.invokestatic 55, 3) := by decide +kernel
theorem dX8_type_87 : decode cX8_type 87 = .ok (.invokevirtual 63, 3) := by decide +kernel
theorem dX8_type_90 : decode cX8_type 90 = .ok (.iinc 4 (-1), 3) := by decide +kernel
theorem dX8_type_93 : decode cX8_type 93 = .ok (.goto (-21), 3) := by decide +kernel
theorem dX8_type_96 : decode cX8_type 96 = .ok (.aload_n 0, 1) := by decide +kernel
theorem dX8_type_97 : decode cX8_type 97 = .ok (.getfield 14, 3) := by decide +kernel
theorem dX8_type_100 : decode cX8_type 100 = .ok (.invokevirtual 66, 3) := by decide +kernel
theorem dX8_type_103 : decode cX8_type 103 = .ok (.ireturn, 1) := by decide +kernel
set_option maxRecDepth 20000 in
theorem ggX8_clear_X5_length : GoodIn wsX8_clear wsX5_length := goodIn_r _ [6, 7, 24, 25] (by decide +kernel) (by decide +kernel)
set_option maxRecDepth 20000 in
theorem gX8_clear_X5_length : GoodIn wsX8_clear (wsV RX8 66 RX5 yX5_length wsX5_length) := goodIn_app (goodIn_of _ (by decide +kernel)) ggX8_clear_X5_length
set_option maxRecDepth 20000 in
theorem ggX8_clear_X5_empty : GoodIn wsX8_clear wsX5_empty := goodIn_r _ [11, 7, 24, 25] (by decide +kernel) (by decide +kernel)
set_option maxRecDepth 20000 in
theorem gX8_clear_X5_empty : GoodIn wsX8_clear (wsV RX8 69 RX5 yX5_empty wsX5_empty) := goodIn_app (goodIn_of _ (by decide +kernel)) ggX8_clear_X5_empty
theorem dX8_clear_0 : decode cX8_clear 0 = .ok (.aload_n 0, 1) := by decide +kernel
theorem dX8_clear_1 : decode cX8_clear 1 = .ok (.getfield 14, 3) := by decide +kernel
theorem dX8_clear_4 : decode cX8_clear 4 = .ok (.invokevirtual 66, 3) := by decide +kernel
theorem dX8_clear_7 : decode cX8_clear 7 = .ok (.istore_n 1, 1) := by decide +kernel
theorem dX8_clear_8 : decode cX8_clear 8 = .ok (.aload_n 0, 1) := by decide +kernel
theorem dX8_clear_9 : decode cX8_clear 9 = .ok (.getfield 14, 3) := by decide +kernel
theorem dX8_clear_12 : decode cX8_clear 12 = .ok (.invokevirtual 69, 3) := by decide +kernel
theorem dX8_clear_15 : decode cX8_clear 15 = .ok (.iload_n 1, 1) := by decide +kernel
theorem dX8_clear_16 : decode cX8_clear 16 = .ok (.ireturn, 1) := by decide +kernel
set_option maxRecDepth 20000 in
theorem ggX8_paper_X8_isBelow : GoodIn wsX8_paper wsX8_isBelow := goodIn_r _ [7] (by decide +kernel) (by decide +kernel)
set_option maxRecDepth 20000 in
theorem gX8_paper_X8_isBelow : GoodIn wsX8_paper (va_wsS RX8 72 yX8_isBelow wsX8_isBelow) := goodIn_app (goodIn_of _ (by decide +kernel)) ggX8_paper_X8_isBelow
set_option maxRecDepth 20000 in
theorem ggX8_paper_X5_length : GoodIn wsX8_paper wsX5_length := goodIn_r _ [12, 13, 105, 106] (by decide +kernel) (by decide +kernel)
set_option maxRecDepth 20000 in
theorem gX8_paper_X5_length : GoodIn wsX8_paper (wsV RX8 66 RX5 yX5_length wsX5_length) := goodIn_app (goodIn_of _ (by decide +kernel)) ggX8_paper_X5_length
set_option maxRecDepth 20000 in
theorem ggX8_paper_X8_newPaper : GoodIn wsX8_paper wsX8_newPaper := goodIn_r _ [16, 17, 18, 19, 20, 21, 22, 23, 24, 25, 26, 27, 28, 29, 30, 31, 32, 33, 34, 35, 36, 37, 38, 39, 40, 41, 42, 43, 107, 108, 109, 110, 111, 112, 113, 114, 115, 116, 117, 118, 119] (by decide +kernel) (by decide +kernel)
set_option maxRecDepth 20000 in
theorem gX8_paper_X8_newPaper : GoodIn wsX8_paper (va_wsS RX8 80 yX8_newPaper wsX8_newPaper) := goodIn_app (goodIn_of _ (by decide +kernel)) ggX8_paper_X8_newPaper
set_option maxRecDepth 20000 in
theorem ggX8_paper_X8_takeDraft : GoodIn wsX8_paper wsX8_takeDraft := goodIn_r _ [47, 48, 49, 50, 1, 51, 52, 53, 54, 34, 35, 55, 56, 11, 57, 58, 59, 60, 61, 62, 63, 64, 9, 10, 12, 13, 65, 66, 67, 68, 69, 70, 71, 72, 73, 74, 75, 5, 6, 7, 76, 77, 78, 79, 80, 81, 82, 83, 120, 121, 93, 94, 95, 96, 97, 98, 99, 100, 101, 102, 103, 104, 105, 106] (by decide +kernel) (by decide +kernel)
set_option maxRecDepth 20000 in
theorem gX8_paper_X8_takeDraft : GoodIn wsX8_paper (wsV RX8 84 RX8 yX8_takeDraft wsX8_takeDraft) := goodIn_app (goodIn_of _ (by decide +kernel)) ggX8_paper_X8_takeDraft
set_option maxRecDepth 20000 in
theorem ggX8_paper_X2_addText : GoodIn wsX8_paper wsX2_addText := goodIn_r _ [88, 89, 38, 5, 6, 7, 107, 108, 109, 110, 111, 112, 113, 114, 115, 116, 117, 118, 119] (by decide +kernel) (by decide +kernel)
set_option maxRecDepth 20000 in
theorem gX8_paper_X2_addText_u88X0 : GoodIn wsX8_paper (va_wsU RX8 88 RX0 "PaperRoom$Paper" ⟨"PaperRoom$Paper", "addText", "(LPaperRoom$Text;)I"⟩ yX2_addText wsX2_addText) := goodIn_app (goodIn_of _ (by decide +kernel)) ggX8_paper_X2_addText
set_option maxRecDepth 20000 in
theorem gX8_paper_X2_addText_u88X1 : GoodIn wsX8_paper (va_wsU RX8 88 RX1 "PaperRoom$Paper" ⟨"PaperRoom$Paper", "addText", "(LPaperRoom$Text;)I"⟩ yX2_addText wsX2_addText) := goodIn_app (goodIn_of _ (by decide +kernel)) ggX8_paper_X2_addText
set_option maxRecDepth 20000 in
theorem gX8_paper_X2_addText : GoodIn wsX8_paper (wsV RX8 88 RX2 yX2_addText wsX2_addText) := goodIn_app (goodIn_of _ (by decide +kernel)) ggX8_paper_X2_addText
theorem dX8_paper_0 : decode cX8_paper 0 = .ok (.iload_n 1, 1) := by decide +kernel
theorem dX8_paper_1 : decode cX8_paper 1 = .ok (.iconst 3, 1) := by decide +kernel
theorem dX8_paper_2 : decode cX8_paper 2 = .ok (.invokestatic 72, 3) := by decide +kernel
theorem dX8_paper_5 : decode cX8_paper 5 = .ok (.ifCond .eq 11, 3) := by decide +kernel
theorem dX8_paper_8 : decode cX8_paper 8 = .ok (.iload_n 2, 1) := by decide +kernel
theorem dX8_paper_9 : decode cX8_paper 9 = .ok (.iconst 4, 1) := by decide +kernel
theorem dX8_paper_10 : decode cX8_paper 10 = .ok (.invokestatic 72, 3) := by decide +kernel
theorem dX8_paper_13 : decode cX8_paper 13 = .ok (.ifCond .ne 5, 3) := by decide +kernel
theorem dX8_paper_16 : decode cX8_paper 16 = .ok (.iconst (-1), 1) := by decide +kernel
theorem dX8_paper_17 : decode cX8_paper 17 = .ok (.ireturn, 1) := by decide +kernel
theorem dX8_paper_18 : decode cX8_paper 18 = .ok (.iload_n 1, 1) := by decide +kernel
theorem dX8_paper_19 : decode cX8_paper 19 = .ok (.iconst 1, 1) := by decide +kernel
theorem dX8_paper_20 : decode cX8_paper 20 = .ok (.if_icmp .ne 9, 3) := by decide +kernel
theorem dX8_paper_23 : decode cX8_paper 23 = .ok (.iload_n 3, 1) := by decide +kernel
theorem dX8_paper_24 : decode cX8_paper 24 = .ok (.ifCond .ge 5, 3) := by decide +kernel
theorem dX8_paper_27 : decode cX8_paper 27 = .ok (.iconst (-1), 1) := by decide +kernel
theorem dX8_paper_28 : decode cX8_paper 28 = .ok (.ireturn, 1) := by decide +kernel
theorem dX8_paper_29 : decode cX8_paper 29 = .ok (.aload_n 0, 1) := by decide +kernel
theorem dX8_paper_30 : decode cX8_paper 30 = .ok (.getfield 14, 3) := by decide +kernel
theorem dX8_paper_33 : decode cX8_paper 33 = .ok (.invokevirtual 66, 3) := by decide +kernel
theorem dX8_paper_36 : decode cX8_paper 36 = .ok (.ifCond .ne 6, 3) := by decide +kernel
theorem dX8_paper_39 : decode cX8_paper 39 = .ok (.bipush (-2), 2) := by decide +kernel
theorem dX8_paper_41 : decode cX8_paper 41 = .ok (.ireturn, 1) := by decide +kernel
theorem dX8_paper_42 : decode cX8_paper 42 = .ok (.aload_n 0, 1) := by decide +kernel
theorem dX8_paper_43 : decode cX8_paper 43 = .ok (.getfield 76, 3) := by decide +kernel
theorem dX8_paper_46 : decode cX8_paper 46 = .ok (.aload_n 0, 1) := by decide +kernel
theorem dX8_paper_47 : decode cX8_paper 47 = .ok (.getfield 27, 3) := by decide +kernel
theorem dX8_paper_50 : decode cX8_paper 50 = .ok (.arraylength, 1) := by decide +kernel
theorem dX8_paper_51 : decode cX8_paper 51 = .ok (.if_icmp .lt 6, 3) := by decide +kernel
theorem dX8_paper_54 : decode cX8_paper 54 = .ok (.bipush (-3), 2) := by decide +kernel
theorem dX8_paper_56 : decode cX8_paper 56 = .ok (.ireturn, 1) := by decide +kernel
theorem dX8_paper_57 : decode cX8_paper 57 = .ok (.iload_n 1, 1) := by decide +kernel
theorem dX8_paper_58 : decode cX8_paper 58 = .ok (.iload_n 2, 1) := by decide +kernel
theorem dX8_paper_59 : decode cX8_paper 59 = .ok (.iload_n 3, 1) := by decide +kernel
theorem dX8_paper_60 : decode cX8_paper 60 = .ok (.invokestatic 80, 3) := by decide +kernel
theorem dX8_paper_63 : decode cX8_paper 63 = .ok (.astore 4, 2) := by decide +kernel
theorem dX8_paper_65 : decode cX8_paper 65 = .ok (.aload 4, 2) := by decide +kernel
theorem dX8_paper_67 : decode cX8_paper 67 = .ok (.aload_n 0, 1) := by decide +kernel
theorem dX8_paper_68 : decode cX8_paper 68 = .ok (.invokevirtual 84, 3) := by decide +kernel
theorem dX8_paper_71 : decode cX8_paper 71 = .ok (.invokevirtual 88, 3) := by decide +kernel
theorem dX8_paper_74 : decode cX8_paper 74 = .ok (.pop, 1) := by decide +kernel
theorem dX8_paper_75 : decode cX8_paper 75 = .ok (.aload_n 0, 1) := by decide +kernel
theorem dX8_paper_76 : decode cX8_paper 76 = .ok (.getfield 27, 3) := by decide +kernel
theorem dX8_paper_79 : decode cX8_paper 79 = .ok (.aload_n 0, 1) := by decide +kernel
theorem dX8_paper_80 : decode cX8_paper 80 = .ok (.getfield 76, 3) := by decide +kernel
theorem dX8_paper_83 : decode cX8_paper 83 = .ok (.aload 4, 2) := by decide +kernel
theorem dX8_paper_85 : decode cX8_paper 85 = .ok (.aastore, 1) := by decide +kernel
theorem dX8_paper_86 : decode cX8_paper 86 = .ok (.aload_n 0, 1) := by decide +kernel
theorem dX8_paper_87 : decode cX8_paper 87 = .ok (.dup, 1) := by decide +kernel
theorem dX8_paper_88 : decode cX8_paper 88 = .ok (.getfield 76, 3) := by decide +kernel
theorem dX8_paper_91 : decode cX8_paper 91 = .ok (.iconst 1, 1) := by decide +kernel
theorem dX8_paper_92 : decode cX8_paper 92 = .ok (.iadd, 1) := by decide +kernel
theorem dX8_paper_93 : decode cX8_paper 93 = .ok (.putfield 76, 3) := by decide +kernel
theorem dX8_paper_96 : decode cX8_paper 96 = .ok (.aload_n 0, 1) := by decide +kernel
theorem dX8_paper_97 : decode cX8_paper 97 = .ok (.getfield 76, 3) := by decide +kernel
theorem dX8_paper_100 : decode cX8_paper 100 = .ok (.iconst 1, 1) := by decide +kernel
theorem dX8_paper_101 : decode cX8_paper 101 = .ok (.isub, 1) := by decide +kernel
theorem dX8_paper_102 : decode cX8_paper 102 = .ok (.ireturn, 1) := by decide +kernel
set_option maxRecDepth 20000 in
theorem ggX8_version_X8_paperNumber : GoodIn wsX8_version wsX8_paperNumber := goodIn_r _ [6, 7, 8, 9, 5, 10, 87, 88, 89, 90, 91, 92, 93, 94, 95, 96, 97, 98] (by decide +kernel) (by decide +kernel)
set_option maxRecDepth 20000 in
theorem gX8_version_X8_paperNumber : GoodIn wsX8_version (wsV RX8 92 RX8 yX8_paperNumber wsX8_paperNumber) := goodIn_app (goodIn_of _ (by decide +kernel)) ggX8_version_X8_paperNumber
set_option maxRecDepth 20000 in
theorem ggX8_version_X5_length : GoodIn wsX8_version wsX5_length := goodIn_r _ [15, 16, 99, 100] (by decide +kernel) (by decide +kernel)
set_option maxRecDepth 20000 in
theorem gX8_version_X5_length : GoodIn wsX8_version (wsV RX8 66 RX5 yX5_length wsX5_length) := goodIn_app (goodIn_of _ (by decide +kernel)) ggX8_version_X5_length
set_option maxRecDepth 20000 in
theorem ggX8_version_X2_isWithdrawn : GoodIn wsX8_version wsX2_isWithdrawn := goodIn_r _ [22, 23, 101, 102, 103, 104, 105, 106, 107, 108, 109, 110, 111, 112, 113] (by decide +kernel) (by decide +kernel)
set_option maxRecDepth 20000 in
theorem gX8_version_X2_isWithdrawn_u96X0 : GoodIn wsX8_version (va_wsU RX8 96 RX0 "PaperRoom$Paper" ⟨"PaperRoom$Paper", "isWithdrawn", "()Z"⟩ yX2_isWithdrawn wsX2_isWithdrawn) := goodIn_app (goodIn_of _ (by decide +kernel)) ggX8_version_X2_isWithdrawn
set_option maxRecDepth 20000 in
theorem gX8_version_X2_isWithdrawn_u96X1 : GoodIn wsX8_version (va_wsU RX8 96 RX1 "PaperRoom$Paper" ⟨"PaperRoom$Paper", "isWithdrawn", "()Z"⟩ yX2_isWithdrawn wsX2_isWithdrawn) := goodIn_app (goodIn_of _ (by decide +kernel)) ggX8_version_X2_isWithdrawn
set_option maxRecDepth 20000 in
theorem gX8_version_X2_isWithdrawn : GoodIn wsX8_version (wsV RX8 96 RX2 yX2_isWithdrawn wsX2_isWithdrawn) := goodIn_app (goodIn_of _ (by decide +kernel)) ggX8_version_X2_isWithdrawn
set_option maxRecDepth 20000 in
theorem ggX8_version_X2_isFull : GoodIn wsX8_version wsX2_isFull := goodIn_r _ [31, 32, 33, 101, 102, 103, 104, 105, 106, 107, 108, 109, 110, 111, 112, 113] (by decide +kernel) (by decide +kernel)
set_option maxRecDepth 20000 in
theorem gX8_version_X2_isFull_u100X0 : GoodIn wsX8_version (va_wsU RX8 100 RX0 "PaperRoom$Paper" ⟨"PaperRoom$Paper", "isFull", "()Z"⟩ yX2_isFull wsX2_isFull) := goodIn_app (goodIn_of _ (by decide +kernel)) ggX8_version_X2_isFull
set_option maxRecDepth 20000 in
theorem gX8_version_X2_isFull_u100X1 : GoodIn wsX8_version (va_wsU RX8 100 RX1 "PaperRoom$Paper" ⟨"PaperRoom$Paper", "isFull", "()Z"⟩ yX2_isFull wsX2_isFull) := goodIn_app (goodIn_of _ (by decide +kernel)) ggX8_version_X2_isFull
set_option maxRecDepth 20000 in
theorem gX8_version_X2_isFull : GoodIn wsX8_version (wsV RX8 100 RX2 yX2_isFull wsX2_isFull) := goodIn_app (goodIn_of _ (by decide +kernel)) ggX8_version_X2_isFull
set_option maxRecDepth 20000 in
theorem ggX8_version_X8_takeDraft : GoodIn wsX8_version wsX8_takeDraft := goodIn_r _ [40, 41, 42, 43, 1, 44, 45, 46, 47, 48, 49, 50, 51, 14, 52, 53, 54, 55, 56, 57, 58, 59, 12, 13, 15, 16, 60, 61, 62, 63, 64, 65, 66, 67, 68, 69, 70, 9, 5, 10, 71, 72, 73, 74, 75, 76, 77, 78, 114, 115, 87, 88, 89, 90, 91, 92, 93, 94, 95, 96, 97, 98, 99, 100] (by decide +kernel) (by decide +kernel)
set_option maxRecDepth 20000 in
theorem gX8_version_X8_takeDraft : GoodIn wsX8_version (wsV RX8 84 RX8 yX8_takeDraft wsX8_takeDraft) := goodIn_app (goodIn_of _ (by decide +kernel)) ggX8_version_X8_takeDraft
set_option maxRecDepth 20000 in
theorem ggX8_version_X2_addText : GoodIn wsX8_version wsX2_addText := goodIn_r _ [83, 32, 33, 9, 5, 10, 101, 102, 103, 104, 105, 106, 107, 108, 109, 110, 111, 112, 113] (by decide +kernel) (by decide +kernel)
set_option maxRecDepth 20000 in
theorem gX8_version_X2_addText_u88X0 : GoodIn wsX8_version (va_wsU RX8 88 RX0 "PaperRoom$Paper" ⟨"PaperRoom$Paper", "addText", "(LPaperRoom$Text;)I"⟩ yX2_addText wsX2_addText) := goodIn_app (goodIn_of _ (by decide +kernel)) ggX8_version_X2_addText
set_option maxRecDepth 20000 in
theorem gX8_version_X2_addText_u88X1 : GoodIn wsX8_version (va_wsU RX8 88 RX1 "PaperRoom$Paper" ⟨"PaperRoom$Paper", "addText", "(LPaperRoom$Text;)I"⟩ yX2_addText wsX2_addText) := goodIn_app (goodIn_of _ (by decide +kernel)) ggX8_version_X2_addText
set_option maxRecDepth 20000 in
theorem gX8_version_X2_addText : GoodIn wsX8_version (wsV RX8 88 RX2 yX2_addText wsX2_addText) := goodIn_app (goodIn_of _ (by decide +kernel)) ggX8_version_X2_addText
theorem dX8_version_0 : decode cX8_version 0 = .ok (.aload_n 0, 1) := by decide +kernel
theorem dX8_version_1 : decode cX8_version 1 = .ok (.iload_n 1, 1) := by decide +kernel
theorem dX8_version_2 : decode cX8_version 2 = .ok (.invokevirtual 92, 3) := by decide +kernel
theorem dX8_version_5 : decode cX8_version 5 = .ok (.astore_n 2, 1) := by decide +kernel
theorem dX8_version_6 : decode cX8_version 6 = .ok (.aload_n 2, 1) := by decide +kernel
theorem dX8_version_7 : decode cX8_version 7 = .ok (.ifnonnull 5, 3) := by decide +kernel
theorem dX8_version_10 : decode cX8_version 10 = .ok (.iconst (-1), 1) := by decide +kernel
theorem dX8_version_11 : decode cX8_version 11 = .ok (.ireturn, 1) := by decide +kernel
theorem dX8_version_12 : decode cX8_version 12 = .ok (.aload_n 0, 1) := by decide +kernel
theorem dX8_version_13 : decode cX8_version 13 = .ok (.getfield 14, 3) := by decide +kernel
theorem dX8_version_16 : decode cX8_version 16 = .ok (.invokevirtual 66, 3) := by decide +kernel
theorem dX8_version_19 : decode cX8_version 19 = .ok (.ifCond .eq 10, 3) := by decide +kernel
theorem dX8_version_22 : decode cX8_version 22 = .ok (.aload_n 2, 1) := by decide +kernel
theorem dX8_version_23 : decode cX8_version 23 = .ok (.invokevirtual 96, 3) := by decide +kernel
theorem dX8_version_26 : decode cX8_version 26 = .ok (.ifCond .eq 6, 3) := by decide +kernel
theorem dX8_version_29 : decode cX8_version 29 = .ok (.bipush (-2), 2) := by decide +kernel
theorem dX8_version_31 : decode cX8_version 31 = .ok (.ireturn, 1) := by decide +kernel
theorem dX8_version_32 : decode cX8_version 32 = .ok (.aload_n 2, 1) := by decide +kernel
theorem dX8_version_33 : decode cX8_version 33 = .ok (.invokevirtual 100, 3) := by decide +kernel
theorem dX8_version_36 : decode cX8_version 36 = .ok (.ifCond .eq 6, 3) := by decide +kernel
theorem dX8_version_39 : decode cX8_version 39 = .ok (.bipush (-3), 2) := by decide +kernel
theorem dX8_version_41 : decode cX8_version 41 = .ok (.ireturn, 1) := by decide +kernel
theorem dX8_version_42 : decode cX8_version 42 = .ok (.aload_n 2, 1) := by decide +kernel
theorem dX8_version_43 : decode cX8_version 43 = .ok (.aload_n 0, 1) := by decide +kernel
theorem dX8_version_44 : decode cX8_version 44 = .ok (.invokevirtual 84, 3) := by decide +kernel
theorem dX8_version_47 : decode cX8_version 47 = .ok (.invokevirtual 88, 3) := by decide +kernel
theorem dX8_version_50 : decode cX8_version 50 = .ok (.ireturn, 1) := by decide +kernel
set_option maxRecDepth 20000 in
theorem ggX8_blacken_X8_paperNumber : GoodIn wsX8_blacken wsX8_paperNumber := goodIn_r _ [5, 6, 7, 8, 4, 9, 40, 41, 42, 43, 44, 45, 46, 47, 48, 49, 50, 51] (by decide +kernel) (by decide +kernel)
set_option maxRecDepth 20000 in
theorem gX8_blacken_X8_paperNumber : GoodIn wsX8_blacken (wsV RX8 92 RX8 yX8_paperNumber wsX8_paperNumber) := goodIn_app (goodIn_of _ (by decide +kernel)) ggX8_blacken_X8_paperNumber
set_option maxRecDepth 20000 in
theorem ggX8_blacken_X8_textOf : GoodIn wsX8_blacken wsX8_textOf := goodIn_r _ [12, 13, 14, 15, 16, 17, 18, 19, 8, 4, 9, 20, 21, 22, 52, 53, 54, 55, 56, 57, 58, 59, 60, 61, 62, 63, 64] (by decide +kernel) (by decide +kernel)
set_option maxRecDepth 20000 in
theorem gX8_blacken_X8_textOf : GoodIn wsX8_blacken (va_wsS RX8 103 yX8_textOf wsX8_textOf) := goodIn_app (goodIn_of _ (by decide +kernel)) ggX8_blacken_X8_textOf
set_option maxRecDepth 20000 in
theorem ggX8_blacken_X7_length : GoodIn wsX8_blacken wsX7_length := goodIn_r _ [27, 28, 29, 30, 31, 32, 33, 34, 65, 66, 67, 68] (by decide +kernel) (by decide +kernel)
set_option maxRecDepth 20000 in
theorem gX8_blacken_X7_length : GoodIn wsX8_blacken (wsV RX8 107 RX7 yX7_length wsX7_length) := goodIn_app (goodIn_of _ (by decide +kernel)) ggX8_blacken_X7_length
set_option maxRecDepth 20000 in
theorem ggX8_blacken_X7_blackenSpan : GoodIn wsX8_blacken wsX7_blackenSpan := goodIn_r _ [38, 39, 65, 66] (by decide +kernel) (by decide +kernel)
set_option maxRecDepth 20000 in
theorem gX8_blacken_X7_blackenSpan : GoodIn wsX8_blacken (wsV RX8 110 RX7 yX7_blackenSpan wsX7_blackenSpan) := goodIn_app (goodIn_of _ (by decide +kernel)) ggX8_blacken_X7_blackenSpan
theorem dX8_blacken_0 : decode cX8_blacken 0 = .ok (.aload_n 0, 1) := by decide +kernel
theorem dX8_blacken_1 : decode cX8_blacken 1 = .ok (.iload_n 1, 1) := by decide +kernel
theorem dX8_blacken_2 : decode cX8_blacken 2 = .ok (.invokevirtual 92, 3) := by decide +kernel
theorem dX8_blacken_5 : decode cX8_blacken 5 = .ok (.iload_n 2, 1) := by decide +kernel
theorem dX8_blacken_6 : decode cX8_blacken 6 = .ok (.invokestatic 103, 3) := by decide +kernel
theorem dX8_blacken_9 : decode cX8_blacken 9 = .ok (.astore 5, 2) := by decide +kernel
theorem dX8_blacken_11 : decode cX8_blacken 11 = .ok (.aload 5, 2) := by decide +kernel
theorem dX8_blacken_13 : decode cX8_blacken 13 = .ok (.ifnull 23, 3) := by decide +kernel
theorem dX8_blacken_16 : decode cX8_blacken 16 = .ok (.iload_n 3, 1) := by decide +kernel
theorem dX8_blacken_17 : decode cX8_blacken 17 = .ok (.ifCond .lt 19, 3) := by decide +kernel
theorem dX8_blacken_20 : decode cX8_blacken 20 = .ok (.iload_n 3, 1) := by decide +kernel
theorem dX8_blacken_21 : decode cX8_blacken 21 = .ok (.iload 4, 2) := by decide +kernel
theorem dX8_blacken_23 : decode cX8_blacken 23 = .ok (.if_icmp .ge 13, 3) := by decide +kernel
theorem dX8_blacken_26 : decode cX8_blacken 26 = .ok (.iload 4, 2) := by decide +kernel
theorem dX8_blacken_28 : decode cX8_blacken 28 = .ok (.aload 5, 2) := by decide +kernel
theorem dX8_blacken_30 : decode cX8_blacken 30 = .ok (.invokevirtual 107, 3) := by decide +kernel
theorem dX8_blacken_33 : decode cX8_blacken 33 = .ok (.if_icmp .le 5, 3) := by decide +kernel
theorem dX8_blacken_36 : decode cX8_blacken 36 = .ok (.iconst (-1), 1) := by decide +kernel
theorem dX8_blacken_37 : decode cX8_blacken 37 = .ok (.ireturn, 1) := by decide +kernel
theorem dX8_blacken_38 : decode cX8_blacken 38 = .ok (.aload 5, 2) := by decide +kernel
theorem dX8_blacken_40 : decode cX8_blacken 40 = .ok (.iload_n 3, 1) := by decide +kernel
theorem dX8_blacken_41 : decode cX8_blacken 41 = .ok (.iload 4, 2) := by decide +kernel
theorem dX8_blacken_43 : decode cX8_blacken 43 = .ok (.invokevirtual 110, 3) := by decide +kernel
theorem dX8_blacken_46 : decode cX8_blacken 46 = .ok (.ireturn, 1) := by decide +kernel
set_option maxRecDepth 20000 in
theorem ggX8_withdraw_X8_paperNumber : GoodIn wsX8_withdraw wsX8_paperNumber := goodIn_r _ [5, 6, 7, 8, 4, 9, 28, 29, 30, 31, 32, 33, 34, 35, 36, 37, 38, 39] (by decide +kernel) (by decide +kernel)
set_option maxRecDepth 20000 in
theorem gX8_withdraw_X8_paperNumber : GoodIn wsX8_withdraw (wsV RX8 92 RX8 yX8_paperNumber wsX8_paperNumber) := goodIn_app (goodIn_of _ (by decide +kernel)) ggX8_withdraw_X8_paperNumber
set_option maxRecDepth 20000 in
theorem ggX8_withdraw_X2_isWithdrawn : GoodIn wsX8_withdraw wsX2_isWithdrawn := goodIn_r _ [15, 16, 40, 41, 42, 43, 44, 45, 46, 47, 48, 49, 50, 51, 52] (by decide +kernel) (by decide +kernel)
set_option maxRecDepth 20000 in
theorem gX8_withdraw_X2_isWithdrawn_u96X0 : GoodIn wsX8_withdraw (va_wsU RX8 96 RX0 "PaperRoom$Paper" ⟨"PaperRoom$Paper", "isWithdrawn", "()Z"⟩ yX2_isWithdrawn wsX2_isWithdrawn) := goodIn_app (goodIn_of _ (by decide +kernel)) ggX8_withdraw_X2_isWithdrawn
set_option maxRecDepth 20000 in
theorem gX8_withdraw_X2_isWithdrawn_u96X1 : GoodIn wsX8_withdraw (va_wsU RX8 96 RX1 "PaperRoom$Paper" ⟨"PaperRoom$Paper", "isWithdrawn", "()Z"⟩ yX2_isWithdrawn wsX2_isWithdrawn) := goodIn_app (goodIn_of _ (by decide +kernel)) ggX8_withdraw_X2_isWithdrawn
set_option maxRecDepth 20000 in
theorem gX8_withdraw_X2_isWithdrawn : GoodIn wsX8_withdraw (wsV RX8 96 RX2 yX2_isWithdrawn wsX2_isWithdrawn) := goodIn_app (goodIn_of _ (by decide +kernel)) ggX8_withdraw_X2_isWithdrawn
set_option maxRecDepth 20000 in
theorem ggX8_withdraw_X2_setWithdrawn : GoodIn wsX8_withdraw wsX2_setWithdrawn := goodIn_r _ [24, 16, 40, 41, 42, 43, 44, 45, 46, 47, 48, 49, 50, 51, 52] (by decide +kernel) (by decide +kernel)
set_option maxRecDepth 20000 in
theorem gX8_withdraw_X2_setWithdrawn_u114X0 : GoodIn wsX8_withdraw (va_wsU RX8 114 RX0 "PaperRoom$Paper" ⟨"PaperRoom$Paper", "setWithdrawn", "()V"⟩ yX2_setWithdrawn wsX2_setWithdrawn) := goodIn_app (goodIn_of _ (by decide +kernel)) ggX8_withdraw_X2_setWithdrawn
set_option maxRecDepth 20000 in
theorem gX8_withdraw_X2_setWithdrawn_u114X1 : GoodIn wsX8_withdraw (va_wsU RX8 114 RX1 "PaperRoom$Paper" ⟨"PaperRoom$Paper", "setWithdrawn", "()V"⟩ yX2_setWithdrawn wsX2_setWithdrawn) := goodIn_app (goodIn_of _ (by decide +kernel)) ggX8_withdraw_X2_setWithdrawn
set_option maxRecDepth 20000 in
theorem gX8_withdraw_X2_setWithdrawn : GoodIn wsX8_withdraw (wsV RX8 114 RX2 yX2_setWithdrawn wsX2_setWithdrawn) := goodIn_app (goodIn_of _ (by decide +kernel)) ggX8_withdraw_X2_setWithdrawn
theorem dX8_withdraw_0 : decode cX8_withdraw 0 = .ok (.aload_n 0, 1) := by decide +kernel
theorem dX8_withdraw_1 : decode cX8_withdraw 1 = .ok (.iload_n 1, 1) := by decide +kernel
theorem dX8_withdraw_2 : decode cX8_withdraw 2 = .ok (.invokevirtual 92, 3) := by decide +kernel
theorem dX8_withdraw_5 : decode cX8_withdraw 5 = .ok (.astore_n 2, 1) := by decide +kernel
theorem dX8_withdraw_6 : decode cX8_withdraw 6 = .ok (.aload_n 2, 1) := by decide +kernel
theorem dX8_withdraw_7 : decode cX8_withdraw 7 = .ok (.ifnonnull 5, 3) := by decide +kernel
theorem dX8_withdraw_10 : decode cX8_withdraw 10 = .ok (.iconst (-1), 1) := by decide +kernel
theorem dX8_withdraw_11 : decode cX8_withdraw 11 = .ok (.ireturn, 1) := by decide +kernel
theorem dX8_withdraw_12 : decode cX8_withdraw 12 = .ok (.aload_n 2, 1) := by decide +kernel
theorem dX8_withdraw_13 : decode cX8_withdraw 13 = .ok (.invokevirtual 96, 3) := by decide +kernel
theorem dX8_withdraw_16 : decode cX8_withdraw 16 = .ok (.ifCond .eq 6, 3) := by decide +kernel
theorem dX8_withdraw_19 : decode cX8_withdraw 19 = .ok (.bipush (-2), 2) := by decide +kernel
theorem dX8_withdraw_21 : decode cX8_withdraw 21 = .ok (.ireturn, 1) := by decide +kernel
theorem dX8_withdraw_22 : decode cX8_withdraw 22 = .ok (.aload_n 2, 1) := by decide +kernel
theorem dX8_withdraw_23 : decode cX8_withdraw 23 = .ok (.invokevirtual 114, 3) := by decide +kernel
theorem dX8_withdraw_26 : decode cX8_withdraw 26 = .ok (.iconst 1, 1) := by decide +kernel
theorem dX8_withdraw_27 : decode cX8_withdraw 27 = .ok (.ireturn, 1) := by decide +kernel
set_option maxRecDepth 20000 in
theorem ggX8_rights_X8_isBelow : GoodIn wsX8_rights wsX8_isBelow := goodIn_r _ [6] (by decide +kernel) (by decide +kernel)
set_option maxRecDepth 20000 in
theorem gX8_rights_X8_isBelow : GoodIn wsX8_rights (va_wsS RX8 72 yX8_isBelow wsX8_isBelow) := goodIn_app (goodIn_of _ (by decide +kernel)) ggX8_rights_X8_isBelow
set_option maxRecDepth 20000 in
theorem ggX8_rights_X4_grant : GoodIn wsX8_rights wsX4_grant := goodIn_r _ [11, 12, 13, 4, 5, 6, 26, 27] (by decide +kernel) (by decide +kernel)
set_option maxRecDepth 20000 in
theorem gX8_rights_X4_grant : GoodIn wsX8_rights (wsV RX8 118 RX4 yX4_grant wsX4_grant) := goodIn_app (goodIn_of _ (by decide +kernel)) ggX8_rights_X4_grant
theorem dX8_rights_0 : decode cX8_rights 0 = .ok (.iload_n 1, 1) := by decide +kernel
theorem dX8_rights_1 : decode cX8_rights 1 = .ok (.iconst 3, 1) := by decide +kernel
theorem dX8_rights_2 : decode cX8_rights 2 = .ok (.invokestatic 72, 3) := by decide +kernel
theorem dX8_rights_5 : decode cX8_rights 5 = .ok (.ifCond .eq 11, 3) := by decide +kernel
theorem dX8_rights_8 : decode cX8_rights 8 = .ok (.iload_n 2, 1) := by decide +kernel
theorem dX8_rights_9 : decode cX8_rights 9 = .ok (.iconst 4, 1) := by decide +kernel
theorem dX8_rights_10 : decode cX8_rights 10 = .ok (.invokestatic 72, 3) := by decide +kernel
theorem dX8_rights_13 : decode cX8_rights 13 = .ok (.ifCond .ne 5, 3) := by decide +kernel
theorem dX8_rights_16 : decode cX8_rights 16 = .ok (.iconst (-1), 1) := by decide +kernel
theorem dX8_rights_17 : decode cX8_rights 17 = .ok (.ireturn, 1) := by decide +kernel
theorem dX8_rights_18 : decode cX8_rights 18 = .ok (.iload_n 3, 1) := by decide +kernel
theorem dX8_rights_19 : decode cX8_rights 19 = .ok (.ldc 117, 2) := by decide +kernel
theorem dX8_rights_21 : decode cX8_rights 21 = .ok (.invokestatic 72, 3) := by decide +kernel
theorem dX8_rights_24 : decode cX8_rights 24 = .ok (.ifCond .eq 13, 3) := by decide +kernel
theorem dX8_rights_27 : decode cX8_rights 27 = .ok (.iload 4, 2) := by decide +kernel
theorem dX8_rights_29 : decode cX8_rights 29 = .ok (.ldc 117, 2) := by decide +kernel
theorem dX8_rights_31 : decode cX8_rights 31 = .ok (.invokestatic 72, 3) := by decide +kernel
theorem dX8_rights_34 : decode cX8_rights 34 = .ok (.ifCond .ne 5, 3) := by decide +kernel
theorem dX8_rights_37 : decode cX8_rights 37 = .ok (.iconst (-1), 1) := by decide +kernel
theorem dX8_rights_38 : decode cX8_rights 38 = .ok (.ireturn, 1) := by decide +kernel
theorem dX8_rights_39 : decode cX8_rights 39 = .ok (.aload_n 0, 1) := by decide +kernel
theorem dX8_rights_40 : decode cX8_rights 40 = .ok (.getfield 21, 3) := by decide +kernel
theorem dX8_rights_43 : decode cX8_rights 43 = .ok (.iload_n 1, 1) := by decide +kernel
theorem dX8_rights_44 : decode cX8_rights 44 = .ok (.iload_n 2, 1) := by decide +kernel
theorem dX8_rights_45 : decode cX8_rights 45 = .ok (.iload_n 3, 1) := by decide +kernel
theorem dX8_rights_46 : decode cX8_rights 46 = .ok (.iload 4, 2) := by decide +kernel
theorem dX8_rights_48 : decode cX8_rights 48 = .ok (.invokevirtual 118, 3) := by decide +kernel
theorem dX8_rights_51 : decode cX8_rights 51 = .ok (.iconst 1, 1) := by decide +kernel
theorem dX8_rights_52 : decode cX8_rights 52 = .ok (.ireturn, 1) := by decide +kernel
set_option maxRecDepth 20000 in
theorem ggX8_tick_J7_fill_53178 : GoodIn wsX8_tick wsJ7_fill_53178 := goodIn_r _ [6] (by decide +kernel) (by decide +kernel)
set_option maxRecDepth 20000 in
theorem gX8_tick_J7_fill_53178 : GoodIn wsX8_tick (va_wsS RX8 125 yJ7_fill_53178 wsJ7_fill_53178) := goodIn_app (goodIn_of _ (by decide +kernel)) ggX8_tick_J7_fill_53178
theorem dX8_tick_0 : decode cX8_tick 0 = .ok (.iload_n 1, 1) := by decide +kernel
theorem dX8_tick_1 : decode cX8_tick 1 = .ok (.iconst 1, 1) := by decide +kernel
theorem dX8_tick_2 : decode cX8_tick 2 = .ok (.if_icmp .lt 10, 3) := by decide +kernel
theorem dX8_tick_5 : decode cX8_tick 5 = .ok (.iload_n 1, 1) := by decide +kernel
theorem dX8_tick_6 : decode cX8_tick 6 = .ok (.sipush 1000, 3) := by decide +kernel
theorem dX8_tick_9 : decode cX8_tick 9 = .ok (.if_icmp .le 5, 3) := by decide +kernel
theorem dX8_tick_12 : decode cX8_tick 12 = .ok (.iconst (-1), 1) := by decide +kernel
theorem dX8_tick_13 : decode cX8_tick 13 = .ok (.ireturn, 1) := by decide +kernel
theorem dX8_tick_14 : decode cX8_tick 14 = .ok (.aload_n 0, 1) := by decide +kernel
theorem dX8_tick_15 : decode cX8_tick 15 = .ok (.dup, 1) := by decide +kernel
theorem dX8_tick_16 : decode cX8_tick 16 = .ok (.getfield 122, 3) := by decide +kernel
theorem dX8_tick_19 : decode cX8_tick 19 = .ok (.iload_n 1, 1) := by decide +kernel
theorem dX8_tick_20 : decode cX8_tick 20 = .ok (.iadd, 1) := by decide +kernel
theorem dX8_tick_21 : decode cX8_tick 21 = .ok (.putfield 122, 3) := by decide +kernel
theorem dX8_tick_24 : decode cX8_tick 24 = .ok (.aload_n 0, 1) := by decide +kernel
theorem dX8_tick_25 : decode cX8_tick 25 = .ok (.getfield 51, 3) := by decide +kernel
theorem dX8_tick_28 : decode cX8_tick 28 = .ok (.iconst 0, 1) := by decide +kernel
theorem dX8_tick_29 : decode cX8_tick 29 = .ok (.invokestatic 125, 3) := by decide +kernel
theorem dX8_tick_32 : decode cX8_tick 32 = .ok (.aload_n 0, 1) := by decide +kernel
theorem dX8_tick_33 : decode cX8_tick 33 = .ok (.getfield 122, 3) := by decide +kernel
theorem dX8_tick_36 : decode cX8_tick 36 = .ok (.ireturn, 1) := by decide +kernel
set_option maxRecDepth 20000 in
theorem ggX8_about_X8_paperNumber : GoodIn wsX8_about wsX8_paperNumber := goodIn_r _ [5, 6, 7, 8, 4, 9, 65, 66, 67, 68, 69, 70, 71, 72, 73, 74, 75, 76] (by decide +kernel) (by decide +kernel)
set_option maxRecDepth 20000 in
theorem gX8_about_X8_paperNumber : GoodIn wsX8_about (wsV RX8 92 RX8 yX8_paperNumber wsX8_paperNumber) := goodIn_app (goodIn_of _ (by decide +kernel)) ggX8_about_X8_paperNumber
set_option maxRecDepth 20000 in
theorem ggX8_about_X0_kind : GoodIn wsX8_about wsX0_kind := goodIn_r _ [16] (by decide +kernel) (by decide +kernel)
set_option maxRecDepth 20000 in
theorem gX8_about_X0_kind_u131X0 : GoodIn wsX8_about (va_wsO RX8 131 RX0 "PaperRoom$Paper" ⟨"PaperRoom$Paper", "kind", "()I"⟩ yX0_kind wsX0_kind) := goodIn_app (goodIn_of _ (by decide +kernel)) ggX8_about_X0_kind
set_option maxRecDepth 20000 in
theorem ggX8_about_X1_kind : GoodIn wsX8_about wsX1_kind := goodIn_r _ [21] (by decide +kernel) (by decide +kernel)
set_option maxRecDepth 20000 in
theorem gX8_about_X1_kind_u131X1 : GoodIn wsX8_about (va_wsO RX8 131 RX1 "PaperRoom$Paper" ⟨"PaperRoom$Paper", "kind", "()I"⟩ yX1_kind wsX1_kind) := goodIn_app (goodIn_of _ (by decide +kernel)) ggX8_about_X1_kind
set_option maxRecDepth 20000 in
theorem ggX8_about_X2_kind : GoodIn wsX8_about wsX2_kind := goodIn_r _ [17] (by decide +kernel) (by decide +kernel)
set_option maxRecDepth 20000 in
theorem gX8_about_X2_kind : GoodIn wsX8_about (wsV RX8 131 RX2 yX2_kind wsX2_kind) := goodIn_app (goodIn_of _ (by decide +kernel)) ggX8_about_X2_kind
set_option maxRecDepth 20000 in
theorem ggX8_about_X2_folder : GoodIn wsX8_about wsX2_folder := goodIn_r _ [30, 31, 77, 78, 79, 80, 81, 82, 83, 84, 85, 86, 87, 88, 89] (by decide +kernel) (by decide +kernel)
set_option maxRecDepth 20000 in
theorem gX8_about_X2_folder_u134X0 : GoodIn wsX8_about (va_wsU RX8 134 RX0 "PaperRoom$Paper" ⟨"PaperRoom$Paper", "folder", "()I"⟩ yX2_folder wsX2_folder) := goodIn_app (goodIn_of _ (by decide +kernel)) ggX8_about_X2_folder
set_option maxRecDepth 20000 in
theorem gX8_about_X2_folder_u134X1 : GoodIn wsX8_about (va_wsU RX8 134 RX1 "PaperRoom$Paper" ⟨"PaperRoom$Paper", "folder", "()I"⟩ yX2_folder wsX2_folder) := goodIn_app (goodIn_of _ (by decide +kernel)) ggX8_about_X2_folder
set_option maxRecDepth 20000 in
theorem gX8_about_X2_folder : GoodIn wsX8_about (wsV RX8 134 RX2 yX2_folder wsX2_folder) := goodIn_app (goodIn_of _ (by decide +kernel)) ggX8_about_X2_folder
set_option maxRecDepth 20000 in
theorem ggX8_about_X2_versions : GoodIn wsX8_about wsX2_versions := goodIn_r _ [39, 40, 77, 78, 79, 80, 81, 82, 83, 84, 85, 86, 87, 88, 89] (by decide +kernel) (by decide +kernel)
set_option maxRecDepth 20000 in
theorem gX8_about_X2_versions_u137X0 : GoodIn wsX8_about (va_wsU RX8 137 RX0 "PaperRoom$Paper" ⟨"PaperRoom$Paper", "versions", "()I"⟩ yX2_versions wsX2_versions) := goodIn_app (goodIn_of _ (by decide +kernel)) ggX8_about_X2_versions
set_option maxRecDepth 20000 in
theorem gX8_about_X2_versions_u137X1 : GoodIn wsX8_about (va_wsU RX8 137 RX1 "PaperRoom$Paper" ⟨"PaperRoom$Paper", "versions", "()I"⟩ yX2_versions wsX2_versions) := goodIn_app (goodIn_of _ (by decide +kernel)) ggX8_about_X2_versions
set_option maxRecDepth 20000 in
theorem gX8_about_X2_versions : GoodIn wsX8_about (wsV RX8 137 RX2 yX2_versions wsX2_versions) := goodIn_app (goodIn_of _ (by decide +kernel)) ggX8_about_X2_versions
set_option maxRecDepth 20000 in
theorem ggX8_about_X2_isWithdrawn : GoodIn wsX8_about wsX2_isWithdrawn := goodIn_r _ [48, 49, 77, 78, 79, 80, 81, 82, 83, 84, 85, 86, 87, 88, 89] (by decide +kernel) (by decide +kernel)
set_option maxRecDepth 20000 in
theorem gX8_about_X2_isWithdrawn_u96X0 : GoodIn wsX8_about (va_wsU RX8 96 RX0 "PaperRoom$Paper" ⟨"PaperRoom$Paper", "isWithdrawn", "()Z"⟩ yX2_isWithdrawn wsX2_isWithdrawn) := goodIn_app (goodIn_of _ (by decide +kernel)) ggX8_about_X2_isWithdrawn
set_option maxRecDepth 20000 in
theorem gX8_about_X2_isWithdrawn_u96X1 : GoodIn wsX8_about (va_wsU RX8 96 RX1 "PaperRoom$Paper" ⟨"PaperRoom$Paper", "isWithdrawn", "()Z"⟩ yX2_isWithdrawn wsX2_isWithdrawn) := goodIn_app (goodIn_of _ (by decide +kernel)) ggX8_about_X2_isWithdrawn
set_option maxRecDepth 20000 in
theorem gX8_about_X2_isWithdrawn : GoodIn wsX8_about (wsV RX8 96 RX2 yX2_isWithdrawn wsX2_isWithdrawn) := goodIn_app (goodIn_of _ (by decide +kernel)) ggX8_about_X2_isWithdrawn
set_option maxRecDepth 20000 in
theorem ggX8_about_X0_letGoTick : GoodIn wsX8_about wsX0_letGoTick := goodIn_r _ [58, 59, 77, 78, 79, 80, 81] (by decide +kernel) (by decide +kernel)
set_option maxRecDepth 20000 in
theorem gX8_about_X0_letGoTick_u140X0 : GoodIn wsX8_about (va_wsO RX8 140 RX0 "PaperRoom$Paper" ⟨"PaperRoom$Paper", "letGoTick", "()I"⟩ yX0_letGoTick wsX0_letGoTick) := goodIn_app (goodIn_of _ (by decide +kernel)) ggX8_about_X0_letGoTick
set_option maxRecDepth 20000 in
theorem ggX8_about_X2_letGoTick : GoodIn wsX8_about wsX2_letGoTick := goodIn_r _ [60] (by decide +kernel) (by decide +kernel)
set_option maxRecDepth 20000 in
theorem gX8_about_X2_letGoTick_u140X1 : GoodIn wsX8_about (va_wsU RX8 140 RX1 "PaperRoom$Paper" ⟨"PaperRoom$Paper", "letGoTick", "()I"⟩ yX2_letGoTick wsX2_letGoTick) := goodIn_app (goodIn_of _ (by decide +kernel)) ggX8_about_X2_letGoTick
set_option maxRecDepth 20000 in
theorem gX8_about_X2_letGoTick : GoodIn wsX8_about (wsV RX8 140 RX2 yX2_letGoTick wsX2_letGoTick) := goodIn_app (goodIn_of _ (by decide +kernel)) ggX8_about_X2_letGoTick
theorem dX8_about_0 : decode cX8_about 0 = .ok (.aload_n 0, 1) := by decide +kernel
theorem dX8_about_1 : decode cX8_about 1 = .ok (.iload_n 1, 1) := by decide +kernel
theorem dX8_about_2 : decode cX8_about 2 = .ok (.invokevirtual 92, 3) := by decide +kernel
theorem dX8_about_5 : decode cX8_about 5 = .ok (.astore_n 3, 1) := by decide +kernel
theorem dX8_about_6 : decode cX8_about 6 = .ok (.aload_n 3, 1) := by decide +kernel
theorem dX8_about_7 : decode cX8_about 7 = .ok (.ifnonnull 5, 3) := by decide +kernel
theorem dX8_about_10 : decode cX8_about 10 = .ok (.iconst (-1), 1) := by decide +kernel
theorem dX8_about_11 : decode cX8_about 11 = .ok (.ireturn, 1) := by decide +kernel
theorem dX8_about_12 : decode cX8_about 12 = .ok (.iload_n 2, 1) := by decide +kernel
theorem dX8_about_13 : decode cX8_about 13 = .ok (.tableswitch 68 0 4 #[35, 40, 45, 50, 63], 35) := by decide +kernel
theorem dX8_about_48 : decode cX8_about 48 = .ok (.aload_n 3, 1) := by decide +kernel
theorem dX8_about_49 : decode cX8_about 49 = .ok (.invokevirtual 131, 3) := by decide +kernel
theorem dX8_about_52 : decode cX8_about 52 = .ok (.ireturn, 1) := by decide +kernel
theorem dX8_about_53 : decode cX8_about 53 = .ok (.aload_n 3, 1) := by decide +kernel
theorem dX8_about_54 : decode cX8_about 54 = .ok (.invokevirtual 134, 3) := by decide +kernel
theorem dX8_about_57 : decode cX8_about 57 = .ok (.ireturn, 1) := by decide +kernel
theorem dX8_about_58 : decode cX8_about 58 = .ok (.aload_n 3, 1) := by decide +kernel
theorem dX8_about_59 : decode cX8_about 59 = .ok (.invokevirtual 137, 3) := by decide +kernel
theorem dX8_about_62 : decode cX8_about 62 = .ok (.ireturn, 1) := by decide +kernel
theorem dX8_about_63 : decode cX8_about 63 = .ok (.aload_n 3, 1) := by decide +kernel
theorem dX8_about_64 : decode cX8_about 64 = .ok (.invokevirtual 96, 3) := by decide +kernel
theorem dX8_about_67 : decode cX8_about 67 = .ok (.ifCond .eq 7, 3) := by decide +kernel
theorem dX8_about_70 : decode cX8_about 70 = .ok (.iconst 1, 1) := by decide +kernel
theorem dX8_about_71 : decode cX8_about 71 = .ok (.goto 4, 3) := by decide +kernel
theorem dX8_about_74 : decode cX8_about 74 = .ok (.iconst 0, 1) := by decide +kernel
theorem dX8_about_75 : decode cX8_about 75 = .ok (.ireturn, 1) := by decide +kernel
theorem dX8_about_76 : decode cX8_about 76 = .ok (.aload_n 3, 1) := by decide +kernel
theorem dX8_about_77 : decode cX8_about 77 = .ok (.invokevirtual 140, 3) := by decide +kernel
theorem dX8_about_80 : decode cX8_about 80 = .ok (.ireturn, 1) := by decide +kernel
theorem dX8_about_81 : decode cX8_about 81 = .ok (.iconst (-1), 1) := by decide +kernel
theorem dX8_about_82 : decode cX8_about 82 = .ok (.ireturn, 1) := by decide +kernel
set_option maxRecDepth 20000 in
theorem ggX8_may_X8_paperNumber : GoodIn wsX8_may wsX8_paperNumber := goodIn_r _ [6, 7, 8, 9, 5, 10, 59, 60, 61, 62, 63, 64, 65, 66, 67, 68, 69, 70] (by decide +kernel) (by decide +kernel)
set_option maxRecDepth 20000 in
theorem gX8_may_X8_paperNumber : GoodIn wsX8_may (wsV RX8 92 RX8 yX8_paperNumber wsX8_paperNumber) := goodIn_app (goodIn_of _ (by decide +kernel)) ggX8_may_X8_paperNumber
set_option maxRecDepth 20000 in
theorem ggX8_may_X8_isBelow : GoodIn wsX8_may wsX8_isBelow := goodIn_r _ [10] (by decide +kernel) (by decide +kernel)
set_option maxRecDepth 20000 in
theorem gX8_may_X8_isBelow : GoodIn wsX8_may (va_wsS RX8 72 yX8_isBelow wsX8_isBelow) := goodIn_app (goodIn_of _ (by decide +kernel)) ggX8_may_X8_isBelow
set_option maxRecDepth 20000 in
theorem ggX8_may_X0_bodiesAsked : GoodIn wsX8_may wsX0_bodiesAsked := goodIn_r _ [17, 18, 12, 19, 20, 21, 22] (by decide +kernel) (by decide +kernel)
set_option maxRecDepth 20000 in
theorem gX8_may_X0_bodiesAsked_u147X0 : GoodIn wsX8_may (va_wsO RX8 147 RX0 "PaperRoom$Paper" ⟨"PaperRoom$Paper", "bodiesAsked", "()I"⟩ yX0_bodiesAsked wsX0_bodiesAsked) := goodIn_app (goodIn_of _ (by decide +kernel)) ggX8_may_X0_bodiesAsked
set_option maxRecDepth 20000 in
theorem ggX8_may_X1_bodiesAsked : GoodIn wsX8_may wsX1_bodiesAsked := goodIn_r _ [26, 27, 12, 28, 20, 21, 22] (by decide +kernel) (by decide +kernel)
set_option maxRecDepth 20000 in
theorem gX8_may_X1_bodiesAsked_u147X1 : GoodIn wsX8_may (va_wsO RX8 147 RX1 "PaperRoom$Paper" ⟨"PaperRoom$Paper", "bodiesAsked", "()I"⟩ yX1_bodiesAsked wsX1_bodiesAsked) := goodIn_app (goodIn_of _ (by decide +kernel)) ggX8_may_X1_bodiesAsked
set_option maxRecDepth 20000 in
theorem ggX8_may_X2_bodiesAsked : GoodIn wsX8_may wsX2_bodiesAsked := goodIn_r _ [22] (by decide +kernel) (by decide +kernel)
set_option maxRecDepth 20000 in
theorem gX8_may_X2_bodiesAsked : GoodIn wsX8_may (wsV RX8 147 RX2 yX2_bodiesAsked wsX2_bodiesAsked) := goodIn_app (goodIn_of _ (by decide +kernel)) ggX8_may_X2_bodiesAsked
set_option maxRecDepth 20000 in
theorem ggX8_may_X8_isOpen : GoodIn wsX8_may wsX8_isOpen := goodIn_r _ [34, 35, 36, 37, 38, 39, 40, 41, 16, 42, 43, 44, 19, 45, 21, 46, 47, 48, 49, 50, 51, 52, 53, 54, 55, 9, 5, 10, 56, 57, 58, 59, 60, 61, 62, 63, 64, 65, 66, 67, 68, 69, 70, 71, 72, 73, 74, 75, 76, 77, 78, 79, 80, 81, 82, 83, 84, 85] (by decide +kernel) (by decide +kernel)
set_option maxRecDepth 20000 in
theorem gX8_may_X8_isOpen : GoodIn wsX8_may (wsV RX8 150 RX8 yX8_isOpen wsX8_isOpen) := goodIn_app (goodIn_of _ (by decide +kernel)) ggX8_may_X8_isOpen
theorem dX8_may_0 : decode cX8_may 0 = .ok (.aload_n 0, 1) := by decide +kernel
theorem dX8_may_1 : decode cX8_may 1 = .ok (.iload_n 2, 1) := by decide +kernel
theorem dX8_may_2 : decode cX8_may 2 = .ok (.invokevirtual 92, 3) := by decide +kernel
theorem dX8_may_5 : decode cX8_may 5 = .ok (.astore_n 3, 1) := by decide +kernel
theorem dX8_may_6 : decode cX8_may 6 = .ok (.iload_n 1, 1) := by decide +kernel
theorem dX8_may_7 : decode cX8_may 7 = .ok (.bipush 6, 2) := by decide +kernel
theorem dX8_may_9 : decode cX8_may 9 = .ok (.invokestatic 72, 3) := by decide +kernel
theorem dX8_may_12 : decode cX8_may 12 = .ok (.ifCond .eq 7, 3) := by decide +kernel
theorem dX8_may_15 : decode cX8_may 15 = .ok (.aload_n 3, 1) := by decide +kernel
theorem dX8_may_16 : decode cX8_may 16 = .ok (.ifnonnull 5, 3) := by decide +kernel
theorem dX8_may_19 : decode cX8_may 19 = .ok (.iconst (-1), 1) := by decide +kernel
theorem dX8_may_20 : decode cX8_may 20 = .ok (.ireturn, 1) := by decide +kernel
theorem dX8_may_21 : decode cX8_may 21 = .ok (.aload_n 0, 1) := by decide +kernel
theorem dX8_may_22 : decode cX8_may 22 = .ok (.dup, 1) := by decide +kernel
theorem dX8_may_23 : decode cX8_may 23 = .ok (.getfield 143, 3) := by decide +kernel
theorem dX8_may_26 : decode cX8_may 26 = .ok (.aload_n 3, 1) := by decide +kernel
theorem dX8_may_27 : decode cX8_may 27 = .ok (.invokevirtual 147, 3) := by decide +kernel
theorem dX8_may_30 : decode cX8_may 30 = .ok (.i2l, 1) := by decide +kernel
theorem dX8_may_31 : decode cX8_may 31 = .ok (.ladd, 1) := by decide +kernel
theorem dX8_may_32 : decode cX8_may 32 = .ok (.putfield 143, 3) := by decide +kernel
theorem dX8_may_35 : decode cX8_may 35 = .ok (.aload_n 0, 1) := by decide +kernel
theorem dX8_may_36 : decode cX8_may 36 = .ok (.aload_n 3, 1) := by decide +kernel
theorem dX8_may_37 : decode cX8_may 37 = .ok (.iload_n 1, 1) := by decide +kernel
theorem dX8_may_38 : decode cX8_may 38 = .ok (.invokevirtual 150, 3) := by decide +kernel
theorem dX8_may_41 : decode cX8_may 41 = .ok (.ifCond .eq 7, 3) := by decide +kernel
theorem dX8_may_44 : decode cX8_may 44 = .ok (.iconst 1, 1) := by decide +kernel
theorem dX8_may_45 : decode cX8_may 45 = .ok (.goto 4, 3) := by decide +kernel
theorem dX8_may_48 : decode cX8_may 48 = .ok (.iconst 0, 1) := by decide +kernel
theorem dX8_may_49 : decode cX8_may 49 = .ok (.ireturn, 1) := by decide +kernel
set_option maxRecDepth 20000 in
theorem ggX8_read_X8_paperNumber : GoodIn wsX8_read wsX8_paperNumber := goodIn_r _ [7, 8, 9, 10, 6, 11, 127, 128, 129, 130, 131, 132, 133, 134, 135, 136, 137, 138] (by decide +kernel) (by decide +kernel)
set_option maxRecDepth 20000 in
theorem gX8_read_X8_paperNumber : GoodIn wsX8_read (wsV RX8 92 RX8 yX8_paperNumber wsX8_paperNumber) := goodIn_app (goodIn_of _ (by decide +kernel)) ggX8_read_X8_paperNumber
set_option maxRecDepth 20000 in
theorem ggX8_read_X8_textOf : GoodIn wsX8_read wsX8_textOf := goodIn_r _ [14, 15, 16, 17, 18, 19, 20, 21, 10, 6, 11, 22, 23, 24, 139, 140, 141, 142, 143, 144, 145, 146, 147, 148, 149, 150, 151] (by decide +kernel) (by decide +kernel)
set_option maxRecDepth 20000 in
theorem gX8_read_X8_textOf : GoodIn wsX8_read (va_wsS RX8 103 yX8_textOf wsX8_textOf) := goodIn_app (goodIn_of _ (by decide +kernel)) ggX8_read_X8_textOf
set_option maxRecDepth 20000 in
theorem ggX8_read_X8_lastViewOf : GoodIn wsX8_read wsX8_lastViewOf := goodIn_r _ [28, 29, 9, 10, 6, 11, 127, 128, 129, 130, 131, 132, 133, 134, 135, 136, 137, 138] (by decide +kernel) (by decide +kernel)
set_option maxRecDepth 20000 in
theorem gX8_read_X8_lastViewOf : GoodIn wsX8_read (wsV RX8 154 RX8 yX8_lastViewOf wsX8_lastViewOf) := goodIn_app (goodIn_of _ (by decide +kernel)) ggX8_read_X8_lastViewOf
set_option maxRecDepth 20000 in
theorem ggX8_read_X8_isOpen : GoodIn wsX8_read wsX8_isOpen := goodIn_r _ [33, 34, 2, 35, 36, 37, 38, 39, 40, 41, 42, 43, 44, 45, 19, 46, 47, 48, 49, 50, 51, 52, 53, 54, 55, 10, 6, 11, 56, 57, 58, 127, 128, 129, 130, 131, 132, 133, 134, 135, 136, 137, 138, 139, 140, 141, 142, 143, 144, 145, 146, 147, 148, 149, 150, 151, 152, 153] (by decide +kernel) (by decide +kernel)
set_option maxRecDepth 20000 in
theorem gX8_read_X8_isOpen : GoodIn wsX8_read (wsV RX8 150 RX8 yX8_isOpen wsX8_isOpen) := goodIn_app (goodIn_of _ (by decide +kernel)) ggX8_read_X8_isOpen
set_option maxRecDepth 20000 in
theorem ggX8_read_X2_copyFor : GoodIn wsX8_read wsX2_copyFor := goodIn_r _ [63, 64, 65, 66, 67, 68, 69, 70, 71, 72, 73, 74, 75, 76, 77, 78, 79, 80, 81, 82, 83, 84, 85, 86, 87, 88, 10, 6, 11, 89, 90, 91, 92, 93, 94, 95, 96, 97, 154, 155, 156, 157] (by decide +kernel) (by decide +kernel)
set_option maxRecDepth 20000 in
theorem gX8_read_X2_copyFor_u158X0 : GoodIn wsX8_read (va_wsU RX8 158 RX0 "PaperRoom$Paper" ⟨"PaperRoom$Paper", "copyFor", "(ILPaperRoom$Text;LPaperRoom$Row;)V"⟩ yX2_copyFor wsX2_copyFor) := goodIn_app (goodIn_of _ (by decide +kernel)) ggX8_read_X2_copyFor
set_option maxRecDepth 20000 in
theorem ggX8_read_X1_copyFor : GoodIn wsX8_read wsX1_copyFor := goodIn_r _ [102, 103, 65, 66, 67, 68, 69, 104, 71, 72, 73, 74, 75, 76, 77, 78, 79, 105, 81, 82, 83, 84, 85, 86, 87, 88, 10, 6, 11, 89, 90, 91, 92, 93, 106, 95, 96, 97, 154, 155, 156, 157] (by decide +kernel) (by decide +kernel)
set_option maxRecDepth 20000 in
theorem gX8_read_X1_copyFor_u158X1 : GoodIn wsX8_read (va_wsO RX8 158 RX1 "PaperRoom$Paper" ⟨"PaperRoom$Paper", "copyFor", "(ILPaperRoom$Text;LPaperRoom$Row;)V"⟩ yX1_copyFor wsX1_copyFor) := goodIn_app (goodIn_of _ (by decide +kernel)) ggX8_read_X1_copyFor
set_option maxRecDepth 20000 in
theorem gX8_read_X2_copyFor : GoodIn wsX8_read (wsV RX8 158 RX2 yX2_copyFor wsX2_copyFor) := goodIn_app (goodIn_of _ (by decide +kernel)) ggX8_read_X2_copyFor
set_option maxRecDepth 20000 in
theorem ggX8_read_X6_note : GoodIn wsX8_read wsX6_note := goodIn_r _ [113, 114, 115, 116, 117, 118, 119, 120, 121, 122, 123, 124, 125, 10, 6, 11, 158, 159, 160, 161, 162, 163, 164] (by decide +kernel) (by decide +kernel)
set_option maxRecDepth 20000 in
theorem gX8_read_X6_note : GoodIn wsX8_read (wsV RX8 162 RX6 yX6_note wsX6_note) := goodIn_app (goodIn_of _ (by decide +kernel)) ggX8_read_X6_note
set_option maxRecDepth 20000 in
theorem ggX8_read_X5_length : GoodIn wsX8_read wsX5_length := goodIn_r _ [79, 69, 154, 155] (by decide +kernel) (by decide +kernel)
set_option maxRecDepth 20000 in
theorem gX8_read_X5_length : GoodIn wsX8_read (wsV RX8 66 RX5 yX5_length wsX5_length) := goodIn_app (goodIn_of _ (by decide +kernel)) ggX8_read_X5_length
theorem dX8_read_0 : decode cX8_read 0 = .ok (.aload_n 0, 1) := by decide +kernel
theorem dX8_read_1 : decode cX8_read 1 = .ok (.iload_n 2, 1) := by decide +kernel
theorem dX8_read_2 : decode cX8_read 2 = .ok (.invokevirtual 92, 3) := by decide +kernel
theorem dX8_read_5 : decode cX8_read 5 = .ok (.astore 4, 2) := by decide +kernel
theorem dX8_read_7 : decode cX8_read 7 = .ok (.aload 4, 2) := by decide +kernel
theorem dX8_read_9 : decode cX8_read 9 = .ok (.iload_n 3, 1) := by decide +kernel
theorem dX8_read_10 : decode cX8_read 10 = .ok (.invokestatic 103, 3) := by decide +kernel
theorem dX8_read_13 : decode cX8_read 13 = .ok (.astore 5, 2) := by decide +kernel
theorem dX8_read_15 : decode cX8_read 15 = .ok (.aload_n 0, 1) := by decide +kernel
theorem dX8_read_16 : decode cX8_read 16 = .ok (.iload_n 1, 1) := by decide +kernel
theorem dX8_read_17 : decode cX8_read 17 = .ok (.invokevirtual 154, 3) := by decide +kernel
theorem dX8_read_20 : decode cX8_read 20 = .ok (.astore 6, 2) := by decide +kernel
theorem dX8_read_22 : decode cX8_read 22 = .ok (.aload 4, 2) := by decide +kernel
theorem dX8_read_24 : decode cX8_read 24 = .ok (.ifnull 13, 3) := by decide +kernel
theorem dX8_read_27 : decode cX8_read 27 = .ok (.aload 5, 2) := by decide +kernel
theorem dX8_read_29 : decode cX8_read 29 = .ok (.ifnull 8, 3) := by decide +kernel
theorem dX8_read_32 : decode cX8_read 32 = .ok (.aload 6, 2) := by decide +kernel
theorem dX8_read_34 : decode cX8_read 34 = .ok (.ifnonnull 5, 3) := by decide +kernel
theorem dX8_read_37 : decode cX8_read 37 = .ok (.iconst (-1), 1) := by decide +kernel
theorem dX8_read_38 : decode cX8_read 38 = .ok (.ireturn, 1) := by decide +kernel
theorem dX8_read_39 : decode cX8_read 39 = .ok (.aload_n 0, 1) := by decide +kernel
theorem dX8_read_40 : decode cX8_read 40 = .ok (.aload 4, 2) := by decide +kernel
theorem dX8_read_42 : decode cX8_read 42 = .ok (.iload_n 1, 1) := by decide +kernel
theorem dX8_read_43 : decode cX8_read 43 = .ok (.invokevirtual 150, 3) := by decide +kernel
theorem dX8_read_46 : decode cX8_read 46 = .ok (.ifCond .ne 6, 3) := by decide +kernel
theorem dX8_read_49 : decode cX8_read 49 = .ok (.bipush (-4), 2) := by decide +kernel
theorem dX8_read_51 : decode cX8_read 51 = .ok (.ireturn, 1) := by decide +kernel
theorem dX8_read_52 : decode cX8_read 52 = .ok (.aload 4, 2) := by decide +kernel
theorem dX8_read_54 : decode cX8_read 54 = .ok (.iload_n 1, 1) := by decide +kernel
theorem dX8_read_55 : decode cX8_read 55 = .ok (.aload 5, 2) := by decide +kernel
theorem dX8_read_57 : decode cX8_read 57 = .ok (.aload 6, 2) := by decide +kernel
theorem dX8_read_59 : decode cX8_read 59 = .ok (.invokevirtual 158, 3) := by decide +kernel
theorem dX8_read_62 : decode cX8_read 62 = .ok (.aload_n 0, 1) := by decide +kernel
theorem dX8_read_63 : decode cX8_read 63 = .ok (.getfield 41, 3) := by decide +kernel
theorem dX8_read_66 : decode cX8_read 66 = .ok (.aload_n 0, 1) := by decide +kernel
theorem dX8_read_67 : decode cX8_read 67 = .ok (.getfield 122, 3) := by decide +kernel
theorem dX8_read_70 : decode cX8_read 70 = .ok (.iload_n 1, 1) := by decide +kernel
theorem dX8_read_71 : decode cX8_read 71 = .ok (.iload_n 2, 1) := by decide +kernel
theorem dX8_read_72 : decode cX8_read 72 = .ok (.iload_n 3, 1) := by decide +kernel
theorem dX8_read_73 : decode cX8_read 73 = .ok (.invokevirtual 162, 3) := by decide +kernel
theorem dX8_read_76 : decode cX8_read 76 = .ok (.aload 6, 2) := by decide +kernel
theorem dX8_read_78 : decode cX8_read 78 = .ok (.invokevirtual 66, 3) := by decide +kernel
theorem dX8_read_81 : decode cX8_read 81 = .ok (.ireturn, 1) := by decide +kernel
set_option maxRecDepth 20000 in
theorem ggX8_at_X8_lastViewOf : GoodIn wsX8_at wsX8_lastViewOf := goodIn_r _ [5, 6, 7, 8, 4, 9, 17, 18, 19, 20, 21, 22, 23, 24, 25, 26, 27, 28] (by decide +kernel) (by decide +kernel)
set_option maxRecDepth 20000 in
theorem gX8_at_X8_lastViewOf : GoodIn wsX8_at (wsV RX8 154 RX8 yX8_lastViewOf wsX8_lastViewOf) := goodIn_app (goodIn_of _ (by decide +kernel)) ggX8_at_X8_lastViewOf
set_option maxRecDepth 20000 in
theorem ggX8_at_X5_get : GoodIn wsX8_at wsX5_get := goodIn_r _ [14, 15, 16, 8, 4, 9, 29, 30] (by decide +kernel) (by decide +kernel)
set_option maxRecDepth 20000 in
theorem gX8_at_X5_get : GoodIn wsX8_at (wsV RX8 165 RX5 yX5_get wsX5_get) := goodIn_app (goodIn_of _ (by decide +kernel)) ggX8_at_X5_get
theorem dX8_at_0 : decode cX8_at 0 = .ok (.aload_n 0, 1) := by decide +kernel
theorem dX8_at_1 : decode cX8_at 1 = .ok (.iload_n 1, 1) := by decide +kernel
theorem dX8_at_2 : decode cX8_at 2 = .ok (.invokevirtual 154, 3) := by decide +kernel
theorem dX8_at_5 : decode cX8_at 5 = .ok (.astore_n 3, 1) := by decide +kernel
theorem dX8_at_6 : decode cX8_at 6 = .ok (.aload_n 3, 1) := by decide +kernel
theorem dX8_at_7 : decode cX8_at 7 = .ok (.ifnonnull 7, 3) := by decide +kernel
theorem dX8_at_10 : decode cX8_at 10 = .ok (.iconst (-1), 1) := by decide +kernel
theorem dX8_at_11 : decode cX8_at 11 = .ok (.goto 8, 3) := by decide +kernel
theorem dX8_at_14 : decode cX8_at 14 = .ok (.aload_n 3, 1) := by decide +kernel
theorem dX8_at_15 : decode cX8_at 15 = .ok (.iload_n 2, 1) := by decide +kernel
theorem dX8_at_16 : decode cX8_at 16 = .ok (.invokevirtual 165, 3) := by decide +kernel
theorem dX8_at_19 : decode cX8_at 19 = .ok (.ireturn, 1) := by decide +kernel
set_option maxRecDepth 20000 in
theorem ggX8_search_X8_isBelow : GoodIn wsX8_search wsX8_isBelow := goodIn_r _ [6] (by decide +kernel) (by decide +kernel)
set_option maxRecDepth 20000 in
theorem gX8_search_X8_isBelow : GoodIn wsX8_search (va_wsS RX8 72 yX8_isBelow wsX8_isBelow) := goodIn_app (goodIn_of _ (by decide +kernel)) ggX8_search_X8_isBelow
set_option maxRecDepth 20000 in
theorem ggX8_search_X5_length : GoodIn wsX8_search wsX5_length := goodIn_r _ [11, 12, 108, 109] (by decide +kernel) (by decide +kernel)
set_option maxRecDepth 20000 in
theorem gX8_search_X5_length : GoodIn wsX8_search (wsV RX8 66 RX5 yX5_length wsX5_length) := goodIn_app (goodIn_of _ (by decide +kernel)) ggX8_search_X5_length
set_option maxRecDepth 20000 in
theorem ggX8_search_X8_paperNumber : GoodIn wsX8_search wsX8_paperNumber := goodIn_r _ [16, 17, 3, 4, 5, 6, 96, 97, 98, 99, 100, 101, 102, 103, 104, 105, 106, 107] (by decide +kernel) (by decide +kernel)
set_option maxRecDepth 20000 in
theorem gX8_search_X8_paperNumber : GoodIn wsX8_search (wsV RX8 92 RX8 yX8_paperNumber wsX8_paperNumber) := goodIn_app (goodIn_of _ (by decide +kernel)) ggX8_search_X8_paperNumber
set_option maxRecDepth 20000 in
theorem ggX8_search_X8_isFoundIn : GoodIn wsX8_search wsX8_isFoundIn := goodIn_r _ [21, 1, 22, 23, 24, 5, 25, 26, 27, 28, 29, 30, 31, 32, 33, 34, 35, 36, 37, 38, 39, 40, 41, 42, 43, 44, 45, 46, 47, 48, 49, 4, 6, 50, 51, 52, 53, 54, 55, 56, 57, 58, 59, 60, 61, 62, 63, 64, 65, 66, 67, 68, 69, 70, 71, 72, 73, 74, 75, 76, 77, 78, 79, 80, 81, 8, 9, 10, 11, 12, 82, 83, 84, 85, 86, 87, 88, 89, 90, 91, 92, 93, 94, 95, 96, 97, 98, 99, 100, 101, 102, 103, 104, 105, 106, 107, 110, 111, 112, 113, 114, 115, 116, 117, 118, 119, 120, 121, 122, 123, 124, 125, 126, 108, 109] (by decide +kernel) (by decide +kernel)
set_option maxRecDepth 20000 in
theorem gX8_search_X8_isFoundIn : GoodIn wsX8_search (wsV RX8 169 RX8 yX8_isFoundIn wsX8_isFoundIn) := goodIn_app (goodIn_of _ (by decide +kernel)) ggX8_search_X8_isFoundIn
theorem dX8_search_0 : decode cX8_search 0 = .ok (.iload_n 1, 1) := by decide +kernel
theorem dX8_search_1 : decode cX8_search 1 = .ok (.bipush 6, 2) := by decide +kernel
theorem dX8_search_3 : decode cX8_search 3 = .ok (.invokestatic 72, 3) := by decide +kernel
theorem dX8_search_6 : decode cX8_search 6 = .ok (.ifCond .ne 5, 3) := by decide +kernel
theorem dX8_search_9 : decode cX8_search 9 = .ok (.iconst (-1), 1) := by decide +kernel
theorem dX8_search_10 : decode cX8_search 10 = .ok (.ireturn, 1) := by decide +kernel
theorem dX8_search_11 : decode cX8_search 11 = .ok (.aload_n 0, 1) := by decide +kernel
theorem dX8_search_12 : decode cX8_search 12 = .ok (.getfield 14, 3) := by decide +kernel
theorem dX8_search_15 : decode cX8_search 15 = .ok (.invokevirtual 66, 3) := by decide +kernel
theorem dX8_search_18 : decode cX8_search 18 = .ok (.ifCond .eq 15, 3) := by decide +kernel
theorem dX8_search_21 : decode cX8_search 21 = .ok (.aload_n 0, 1) := by decide +kernel
theorem dX8_search_22 : decode cX8_search 22 = .ok (.getfield 14, 3) := by decide +kernel
theorem dX8_search_25 : decode cX8_search 25 = .ok (.invokevirtual 66, 3) := by decide +kernel
theorem dX8_search_28 : decode cX8_search 28 = .ok (.bipush 20, 2) := by decide +kernel
theorem dX8_search_30 : decode cX8_search 30 = .ok (.if_icmp .le 6, 3) := by decide +kernel
theorem dX8_search_33 : decode cX8_search 33 = .ok (.bipush (-2), 2) := by decide +kernel
theorem dX8_search_35 : decode cX8_search 35 = .ok (.ireturn, 1) := by decide +kernel
theorem dX8_search_36 : decode cX8_search 36 = .ok (.iconst 0, 1) := by decide +kernel
theorem dX8_search_37 : decode cX8_search 37 = .ok (.istore_n 2, 1) := by decide +kernel
theorem dX8_search_38 : decode cX8_search 38 = .ok (.iconst 0, 1) := by decide +kernel
theorem dX8_search_39 : decode cX8_search 39 = .ok (.istore_n 3, 1) := by decide +kernel
theorem dX8_search_40 : decode cX8_search 40 = .ok (.iload_n 3, 1) := by decide +kernel
theorem dX8_search_41 : decode cX8_search 41 = .ok (.aload_n 0, 1) := by decide +kernel
theorem dX8_search_42 : decode cX8_search 42 = .ok (.getfield 76, 3) := by decide +kernel
theorem dX8_search_45 : decode cX8_search 45 = .ok (.if_icmp .ge 25, 3) := by decide +kernel
theorem dX8_search_48 : decode cX8_search 48 = .ok (.aload_n 0, 1) := by decide +kernel
theorem dX8_search_49 : decode cX8_search 49 = .ok (.aload_n 0, 1) := by decide +kernel
theorem dX8_search_50 : decode cX8_search 50 = .ok (.iload_n 3, 1) := by decide +kernel
theorem dX8_search_51 : decode cX8_search 51 = .ok (.invokevirtual 92, 3) := by decide +kernel
theorem dX8_search_54 : decode cX8_search 54 = .ok (.iload_n 1, 1) := by decide +kernel
theorem dX8_search_55 : decode cX8_search 55 = .ok (.invokevirtual 169, 3) := by decide +kernel
theorem dX8_search_58 : decode cX8_search 58 = .ok (.ifCond .eq 6, 3) := by decide +kernel
theorem dX8_search_61 : decode cX8_search 61 = .ok (.iinc 2 1, 3) := by decide +kernel
theorem dX8_search_64 : decode cX8_search 64 = .ok (.iinc 3 1, 3) := by decide +kernel
theorem dX8_search_67 : decode cX8_search 67 = .ok (.goto (-27), 3) := by decide +kernel
theorem dX8_search_70 : decode cX8_search 70 = .ok (.iload_n 2, 1) := by decide +kernel
theorem dX8_search_71 : decode cX8_search 71 = .ok (.ireturn, 1) := by decide +kernel
set_option maxRecDepth 20000 in
theorem ggX8_named_X8_paperNumber : GoodIn wsX8_named wsX8_paperNumber := goodIn_r _ [7, 8, 9, 10, 6, 11, 96, 97, 98, 99, 100, 101, 102, 103, 104, 105, 106, 107] (by decide +kernel) (by decide +kernel)
set_option maxRecDepth 20000 in
theorem gX8_named_X8_paperNumber : GoodIn wsX8_named (wsV RX8 92 RX8 yX8_paperNumber wsX8_paperNumber) := goodIn_app (goodIn_of _ (by decide +kernel)) ggX8_named_X8_paperNumber
set_option maxRecDepth 20000 in
theorem ggX8_named_X8_textOf : GoodIn wsX8_named wsX8_textOf := goodIn_r _ [14, 15, 16, 17, 18, 19, 20, 21, 10, 6, 11, 22, 23, 24, 108, 109, 110, 111, 112, 113, 114, 115, 116, 117, 118, 119, 120] (by decide +kernel) (by decide +kernel)
set_option maxRecDepth 20000 in
theorem gX8_named_X8_textOf : GoodIn wsX8_named (va_wsS RX8 103 yX8_textOf wsX8_textOf) := goodIn_app (goodIn_of _ (by decide +kernel)) ggX8_named_X8_textOf
set_option maxRecDepth 20000 in
theorem ggX8_named_X0_kind : GoodIn wsX8_named wsX0_kind := goodIn_r _ [31] (by decide +kernel) (by decide +kernel)
set_option maxRecDepth 20000 in
theorem gX8_named_X0_kind_u131X0 : GoodIn wsX8_named (va_wsO RX8 131 RX0 "PaperRoom$Paper" ⟨"PaperRoom$Paper", "kind", "()I"⟩ yX0_kind wsX0_kind) := goodIn_app (goodIn_of _ (by decide +kernel)) ggX8_named_X0_kind
set_option maxRecDepth 20000 in
theorem ggX8_named_X1_kind : GoodIn wsX8_named wsX1_kind := goodIn_r _ [36] (by decide +kernel) (by decide +kernel)
set_option maxRecDepth 20000 in
theorem gX8_named_X1_kind_u131X1 : GoodIn wsX8_named (va_wsO RX8 131 RX1 "PaperRoom$Paper" ⟨"PaperRoom$Paper", "kind", "()I"⟩ yX1_kind wsX1_kind) := goodIn_app (goodIn_of _ (by decide +kernel)) ggX8_named_X1_kind
set_option maxRecDepth 20000 in
theorem ggX8_named_X2_kind : GoodIn wsX8_named wsX2_kind := goodIn_r _ [32] (by decide +kernel) (by decide +kernel)
set_option maxRecDepth 20000 in
theorem gX8_named_X2_kind : GoodIn wsX8_named (wsV RX8 131 RX2 yX2_kind wsX2_kind) := goodIn_app (goodIn_of _ (by decide +kernel)) ggX8_named_X2_kind
set_option maxRecDepth 20000 in
theorem ggX8_named_X5_length : GoodIn wsX8_named wsX5_length := goodIn_r _ [44, 45, 121, 122] (by decide +kernel) (by decide +kernel)
set_option maxRecDepth 20000 in
theorem gX8_named_X5_length : GoodIn wsX8_named (wsV RX8 66 RX5 yX5_length wsX5_length) := goodIn_app (goodIn_of _ (by decide +kernel)) ggX8_named_X5_length
set_option maxRecDepth 20000 in
theorem ggX8_named_X2_copyFor : GoodIn wsX8_named wsX2_copyFor := goodIn_r _ [50, 51, 52, 53, 43, 54, 45, 55, 56, 57, 58, 59, 60, 61, 41, 42, 44, 62, 63, 64, 65, 66, 67, 68, 69, 70, 10, 6, 11, 71, 72, 73, 74, 75, 76, 77, 78, 79, 121, 122, 123, 124] (by decide +kernel) (by decide +kernel)
set_option maxRecDepth 20000 in
theorem gX8_named_X2_copyFor_u158X0 : GoodIn wsX8_named (va_wsU RX8 158 RX0 "PaperRoom$Paper" ⟨"PaperRoom$Paper", "copyFor", "(ILPaperRoom$Text;LPaperRoom$Row;)V"⟩ yX2_copyFor wsX2_copyFor) := goodIn_app (goodIn_of _ (by decide +kernel)) ggX8_named_X2_copyFor
set_option maxRecDepth 20000 in
theorem ggX8_named_X1_copyFor : GoodIn wsX8_named wsX1_copyFor := goodIn_r _ [83, 84, 52, 53, 43, 54, 45, 85, 56, 57, 58, 59, 60, 61, 41, 42, 44, 86, 63, 64, 65, 66, 67, 68, 69, 70, 10, 6, 11, 71, 72, 73, 74, 75, 87, 77, 78, 79, 121, 122, 123, 124] (by decide +kernel) (by decide +kernel)
set_option maxRecDepth 20000 in
theorem gX8_named_X1_copyFor_u158X1 : GoodIn wsX8_named (va_wsO RX8 158 RX1 "PaperRoom$Paper" ⟨"PaperRoom$Paper", "copyFor", "(ILPaperRoom$Text;LPaperRoom$Row;)V"⟩ yX1_copyFor wsX1_copyFor) := goodIn_app (goodIn_of _ (by decide +kernel)) ggX8_named_X1_copyFor
set_option maxRecDepth 20000 in
theorem gX8_named_X2_copyFor : GoodIn wsX8_named (wsV RX8 158 RX2 yX2_copyFor wsX2_copyFor) := goodIn_app (goodIn_of _ (by decide +kernel)) ggX8_named_X2_copyFor
set_option maxRecDepth 20000 in
theorem ggX8_named_X5_beginsWith : GoodIn wsX8_named wsX5_beginsWith := goodIn_r _ [93, 45, 94, 41, 42, 43, 44, 95, 72, 73, 74, 75, 10, 6, 11, 121, 122] (by decide +kernel) (by decide +kernel)
set_option maxRecDepth 20000 in
theorem gX8_named_X5_beginsWith : GoodIn wsX8_named (wsV RX8 172 RX5 yX5_beginsWith wsX5_beginsWith) := goodIn_app (goodIn_of _ (by decide +kernel)) ggX8_named_X5_beginsWith
theorem dX8_named_0 : decode cX8_named 0 = .ok (.aload_n 0, 1) := by decide +kernel
theorem dX8_named_1 : decode cX8_named 1 = .ok (.iload_n 1, 1) := by decide +kernel
theorem dX8_named_2 : decode cX8_named 2 = .ok (.invokevirtual 92, 3) := by decide +kernel
theorem dX8_named_5 : decode cX8_named 5 = .ok (.astore_n 3, 1) := by decide +kernel
theorem dX8_named_6 : decode cX8_named 6 = .ok (.aload_n 3, 1) := by decide +kernel
theorem dX8_named_7 : decode cX8_named 7 = .ok (.iload_n 2, 1) := by decide +kernel
theorem dX8_named_8 : decode cX8_named 8 = .ok (.invokestatic 103, 3) := by decide +kernel
theorem dX8_named_11 : decode cX8_named 11 = .ok (.astore 4, 2) := by decide +kernel
theorem dX8_named_13 : decode cX8_named 13 = .ok (.aload_n 3, 1) := by decide +kernel
theorem dX8_named_14 : decode cX8_named 14 = .ok (.ifnull 16, 3) := by decide +kernel
theorem dX8_named_17 : decode cX8_named 17 = .ok (.aload 4, 2) := by decide +kernel
theorem dX8_named_19 : decode cX8_named 19 = .ok (.ifnull 11, 3) := by decide +kernel
theorem dX8_named_22 : decode cX8_named 22 = .ok (.aload_n 3, 1) := by decide +kernel
theorem dX8_named_23 : decode cX8_named 23 = .ok (.invokevirtual 131, 3) := by decide +kernel
theorem dX8_named_26 : decode cX8_named 26 = .ok (.iconst 2, 1) := by decide +kernel
theorem dX8_named_27 : decode cX8_named 27 = .ok (.if_icmp .eq 5, 3) := by decide +kernel
theorem dX8_named_30 : decode cX8_named 30 = .ok (.iconst (-1), 1) := by decide +kernel
theorem dX8_named_31 : decode cX8_named 31 = .ok (.ireturn, 1) := by decide +kernel
theorem dX8_named_32 : decode cX8_named 32 = .ok (.aload_n 0, 1) := by decide +kernel
theorem dX8_named_33 : decode cX8_named 33 = .ok (.getfield 14, 3) := by decide +kernel
theorem dX8_named_36 : decode cX8_named 36 = .ok (.invokevirtual 66, 3) := by decide +kernel
theorem dX8_named_39 : decode cX8_named 39 = .ok (.ifCond .ne 6, 3) := by decide +kernel
theorem dX8_named_42 : decode cX8_named 42 = .ok (.bipush (-2), 2) := by decide +kernel
theorem dX8_named_44 : decode cX8_named 44 = .ok (.ireturn, 1) := by decide +kernel
theorem dX8_named_45 : decode cX8_named 45 = .ok (.iconst 0, 1) := by decide +kernel
theorem dX8_named_46 : decode cX8_named 46 = .ok (.istore 5, 2) := by decide +kernel
theorem dX8_named_48 : decode cX8_named 48 = .ok (.iconst 0, 1) := by decide +kernel
theorem dX8_named_49 : decode cX8_named 49 = .ok (.istore 6, 2) := by decide +kernel
theorem dX8_named_51 : decode cX8_named 51 = .ok (.iload 6, 2) := by decide +kernel
theorem dX8_named_53 : decode cX8_named 53 = .ok (.bipush 6, 2) := by decide +kernel
theorem dX8_named_55 : decode cX8_named 55 = .ok (.if_icmp .ge 44, 3) := by decide +kernel
theorem dX8_named_58 : decode cX8_named 58 = .ok (.aload_n 3, 1) := by decide +kernel
theorem dX8_named_59 : decode cX8_named 59 = .ok (.iload 6, 2) := by decide +kernel
theorem dX8_named_61 : decode cX8_named 61 = .ok (.aload 4, 2) := by decide +kernel
theorem dX8_named_63 : decode cX8_named 63 = .ok (.aload_n 0, 1) := by decide +kernel
theorem dX8_named_64 : decode cX8_named 64 = .ok (.getfield 35, 3) := by decide +kernel
theorem dX8_named_67 : decode cX8_named 67 = .ok (.invokevirtual 158, 3) := by decide +kernel
theorem dX8_named_70 : decode cX8_named 70 = .ok (.aload_n 0, 1) := by decide +kernel
theorem dX8_named_71 : decode cX8_named 71 = .ok (.getfield 35, 3) := by decide +kernel
theorem dX8_named_74 : decode cX8_named 74 = .ok (.aload_n 0, 1) := by decide +kernel
theorem dX8_named_75 : decode cX8_named 75 = .ok (.getfield 14, 3) := by decide +kernel
theorem dX8_named_78 : decode cX8_named 78 = .ok (.invokevirtual 172, 3) := by decide +kernel
theorem dX8_named_81 : decode cX8_named 81 = .ok (.ifCond .eq 12, 3) := by decide +kernel
theorem dX8_named_84 : decode cX8_named 84 = .ok (.iload 5, 2) := by decide +kernel
theorem dX8_named_86 : decode cX8_named 86 = .ok (.iconst 1, 1) := by decide +kernel
theorem dX8_named_87 : decode cX8_named 87 = .ok (.iload 6, 2) := by decide +kernel
theorem dX8_named_89 : decode cX8_named 89 = .ok (.ishl, 1) := by decide +kernel
theorem dX8_named_90 : decode cX8_named 90 = .ok (.ior, 1) := by decide +kernel
theorem dX8_named_91 : decode cX8_named 91 = .ok (.istore 5, 2) := by decide +kernel
theorem dX8_named_93 : decode cX8_named 93 = .ok (.iinc 6 1, 3) := by decide +kernel
theorem dX8_named_96 : decode cX8_named 96 = .ok (.goto (-45), 3) := by decide +kernel
theorem dX8_named_99 : decode cX8_named 99 = .ok (.iload 5, 2) := by decide +kernel
theorem dX8_named_101 : decode cX8_named 101 = .ok (.ireturn, 1) := by decide +kernel
set_option maxRecDepth 20000 in
theorem ggX8_log_X6_told : GoodIn wsX8_log wsX6_told := goodIn_r _ [6, 7, 8, 9, 10, 11, 12, 13, 5, 14, 15, 16, 17, 18, 31, 32, 33, 34, 35, 36, 37] (by decide +kernel) (by decide +kernel)
set_option maxRecDepth 20000 in
theorem gX8_log_X6_told : GoodIn wsX8_log (wsV RX8 176 RX6 yX6_told wsX6_told) := goodIn_app (goodIn_of _ (by decide +kernel)) ggX8_log_X6_told
theorem dX8_log_0 : decode cX8_log 0 = .ok (.aload_n 0, 1) := by decide +kernel
theorem dX8_log_1 : decode cX8_log 1 = .ok (.getfield 41, 3) := by decide +kernel
theorem dX8_log_4 : decode cX8_log 4 = .ok (.iload_n 1, 1) := by decide +kernel
theorem dX8_log_5 : decode cX8_log 5 = .ok (.iload_n 2, 1) := by decide +kernel
theorem dX8_log_6 : decode cX8_log 6 = .ok (.invokevirtual 176, 3) := by decide +kernel
theorem dX8_log_9 : decode cX8_log 9 = .ok (.ireturn, 1) := by decide +kernel
set_option maxRecDepth 20000 in
theorem ggX8_chain_X6_link : GoodIn wsX8_chain wsX6_link := goodIn_r _ [6, 7, 8, 9, 10, 5, 11, 12, 13, 14, 15, 28, 29, 30, 31, 32, 33, 34] (by decide +kernel) (by decide +kernel)
set_option maxRecDepth 20000 in
theorem gX8_chain_X6_link : GoodIn wsX8_chain (wsV RX8 179 RX6 yX6_link wsX6_link) := goodIn_app (goodIn_of _ (by decide +kernel)) ggX8_chain_X6_link
theorem dX8_chain_0 : decode cX8_chain 0 = .ok (.aload_n 0, 1) := by decide +kernel
theorem dX8_chain_1 : decode cX8_chain 1 = .ok (.getfield 41, 3) := by decide +kernel
theorem dX8_chain_4 : decode cX8_chain 4 = .ok (.iload_n 1, 1) := by decide +kernel
theorem dX8_chain_5 : decode cX8_chain 5 = .ok (.invokevirtual 179, 3) := by decide +kernel
theorem dX8_chain_8 : decode cX8_chain 8 = .ok (.lreturn, 1) := by decide +kernel
set_option maxRecDepth 20000 in
theorem ggX8_times_X8_isBelow : GoodIn wsX8_times wsX8_isBelow := goodIn_r _ [5] (by decide +kernel) (by decide +kernel)
set_option maxRecDepth 20000 in
theorem gX8_times_X8_isBelow : GoodIn wsX8_times (va_wsS RX8 72 yX8_isBelow wsX8_isBelow) := goodIn_app (goodIn_of _ (by decide +kernel)) ggX8_times_X8_isBelow
set_option maxRecDepth 20000 in
theorem ggX8_times_X8_paperNumber : GoodIn wsX8_times wsX8_paperNumber := goodIn_r _ [9, 10, 2, 3, 4, 5, 33, 34, 35, 36, 37, 38, 39, 40, 41, 42, 43, 44] (by decide +kernel) (by decide +kernel)
set_option maxRecDepth 20000 in
theorem gX8_times_X8_paperNumber : GoodIn wsX8_times (wsV RX8 92 RX8 yX8_paperNumber wsX8_paperNumber) := goodIn_app (goodIn_of _ (by decide +kernel)) ggX8_times_X8_paperNumber
set_option maxRecDepth 20000 in
theorem ggX8_times_X8_textOf : GoodIn wsX8_times wsX8_textOf := goodIn_r _ [13, 14, 15, 16, 17, 18, 19, 20, 3, 4, 5, 21, 22, 23, 45, 46, 47, 48, 49, 50, 51, 52, 53, 54, 55, 56, 57] (by decide +kernel) (by decide +kernel)
set_option maxRecDepth 20000 in
theorem gX8_times_X8_textOf : GoodIn wsX8_times (va_wsS RX8 103 yX8_textOf wsX8_textOf) := goodIn_app (goodIn_of _ (by decide +kernel)) ggX8_times_X8_textOf
set_option maxRecDepth 20000 in
theorem ggX8_times_X6_readings : GoodIn wsX8_times wsX6_readings := goodIn_r _ [28, 29, 30, 31, 32, 58, 59, 60, 61, 62, 63, 64] (by decide +kernel) (by decide +kernel)
set_option maxRecDepth 20000 in
theorem gX8_times_X6_readings : GoodIn wsX8_times (wsV RX8 183 RX6 yX6_readings wsX6_readings) := goodIn_app (goodIn_of _ (by decide +kernel)) ggX8_times_X6_readings
theorem dX8_times_0 : decode cX8_times 0 = .ok (.iload_n 1, 1) := by decide +kernel
theorem dX8_times_1 : decode cX8_times 1 = .ok (.bipush 6, 2) := by decide +kernel
theorem dX8_times_3 : decode cX8_times 3 = .ok (.invokestatic 72, 3) := by decide +kernel
theorem dX8_times_6 : decode cX8_times 6 = .ok (.ifCond .eq 15, 3) := by decide +kernel
theorem dX8_times_9 : decode cX8_times 9 = .ok (.aload_n 0, 1) := by decide +kernel
theorem dX8_times_10 : decode cX8_times 10 = .ok (.iload_n 2, 1) := by decide +kernel
theorem dX8_times_11 : decode cX8_times 11 = .ok (.invokevirtual 92, 3) := by decide +kernel
theorem dX8_times_14 : decode cX8_times 14 = .ok (.iload_n 3, 1) := by decide +kernel
theorem dX8_times_15 : decode cX8_times 15 = .ok (.invokestatic 103, 3) := by decide +kernel
theorem dX8_times_18 : decode cX8_times 18 = .ok (.ifnonnull 5, 3) := by decide +kernel
theorem dX8_times_21 : decode cX8_times 21 = .ok (.iconst (-1), 1) := by decide +kernel
theorem dX8_times_22 : decode cX8_times 22 = .ok (.ireturn, 1) := by decide +kernel
theorem dX8_times_23 : decode cX8_times 23 = .ok (.aload_n 0, 1) := by decide +kernel
theorem dX8_times_24 : decode cX8_times 24 = .ok (.getfield 41, 3) := by decide +kernel
theorem dX8_times_27 : decode cX8_times 27 = .ok (.iload_n 1, 1) := by decide +kernel
theorem dX8_times_28 : decode cX8_times 28 = .ok (.iload_n 2, 1) := by decide +kernel
theorem dX8_times_29 : decode cX8_times 29 = .ok (.iload_n 3, 1) := by decide +kernel
theorem dX8_times_30 : decode cX8_times 30 = .ok (.invokevirtual 183, 3) := by decide +kernel
theorem dX8_times_33 : decode cX8_times 33 = .ok (.ireturn, 1) := by decide +kernel
set_option maxRecDepth 20000 in
theorem ggX8_ask_X8_paperNumber : GoodIn wsX8_ask wsX8_paperNumber := goodIn_r _ [6, 7, 8, 9, 5, 10, 73, 74, 75, 76, 77, 78, 79, 80, 81, 82, 83, 84] (by decide +kernel) (by decide +kernel)
set_option maxRecDepth 20000 in
theorem gX8_ask_X8_paperNumber : GoodIn wsX8_ask (wsV RX8 92 RX8 yX8_paperNumber wsX8_paperNumber) := goodIn_app (goodIn_of _ (by decide +kernel)) ggX8_ask_X8_paperNumber
set_option maxRecDepth 20000 in
theorem ggX8_ask_X8_isBelow : GoodIn wsX8_ask wsX8_isBelow := goodIn_r _ [10] (by decide +kernel) (by decide +kernel)
set_option maxRecDepth 20000 in
theorem gX8_ask_X8_isBelow : GoodIn wsX8_ask (va_wsS RX8 72 yX8_isBelow wsX8_isBelow) := goodIn_app (goodIn_of _ (by decide +kernel)) ggX8_ask_X8_isBelow
set_option maxRecDepth 20000 in
theorem ggX8_ask_X8_isOpen : GoodIn wsX8_ask wsX8_isOpen := goodIn_r _ [14, 15, 16, 17, 18, 19, 20, 21, 22, 23, 24, 25, 26, 27, 28, 29, 30, 31, 32, 33, 34, 35, 36, 37, 38, 9, 5, 10, 39, 40, 41, 73, 74, 75, 76, 77, 78, 79, 80, 81, 82, 83, 84, 85, 86, 87, 88, 89, 90, 91, 92, 93, 94, 95, 96, 97, 98, 99] (by decide +kernel) (by decide +kernel)
set_option maxRecDepth 20000 in
theorem gX8_ask_X8_isOpen : GoodIn wsX8_ask (wsV RX8 150 RX8 yX8_isOpen wsX8_isOpen) := goodIn_app (goodIn_of _ (by decide +kernel)) ggX8_ask_X8_isOpen
set_option maxRecDepth 20000 in
theorem ggX8_ask_X8_questionOn : GoodIn wsX8_ask wsX8_questionOn := goodIn_r _ [45, 46, 47, 48, 49, 50, 51, 52, 53, 5, 54, 8, 9, 10, 55, 56, 57, 58, 59, 60, 61, 62, 63, 64, 65, 66, 67, 73, 74, 75, 76, 77, 78, 79, 80, 81, 82, 83, 84, 100, 101, 102, 103, 104] (by decide +kernel) (by decide +kernel)
set_option maxRecDepth 20000 in
theorem gX8_ask_X8_questionOn : GoodIn wsX8_ask (wsV RX8 187 RX8 yX8_questionOn wsX8_questionOn) := goodIn_app (goodIn_of _ (by decide +kernel)) ggX8_ask_X8_questionOn
set_option maxRecDepth 20000 in
theorem ggX8_ask_X8_questionNumber : GoodIn wsX8_ask wsX8_questionNumber := goodIn_r _ [54, 47, 8, 9, 5, 10, 73, 74, 75, 76, 77, 78, 79, 80, 81, 82, 83, 84] (by decide +kernel) (by decide +kernel)
set_option maxRecDepth 20000 in
theorem gX8_ask_X8_questionNumber : GoodIn wsX8_ask (wsV RX8 190 RX8 yX8_questionNumber wsX8_questionNumber) := goodIn_app (goodIn_of _ (by decide +kernel)) ggX8_ask_X8_questionNumber
set_option maxRecDepth 20000 in
theorem ggX8_ask_X3_join : GoodIn wsX8_ask wsX3_join := goodIn_r _ [71, 72, 100, 101, 102, 103, 104] (by decide +kernel) (by decide +kernel)
set_option maxRecDepth 20000 in
theorem gX8_ask_X3_join : GoodIn wsX8_ask (wsV RX8 194 RX3 yX3_join wsX3_join) := goodIn_app (goodIn_of _ (by decide +kernel)) ggX8_ask_X3_join
theorem dX8_ask_0 : decode cX8_ask 0 = .ok (.aload_n 0, 1) := by decide +kernel
theorem dX8_ask_1 : decode cX8_ask 1 = .ok (.iload_n 2, 1) := by decide +kernel
theorem dX8_ask_2 : decode cX8_ask 2 = .ok (.invokevirtual 92, 3) := by decide +kernel
theorem dX8_ask_5 : decode cX8_ask 5 = .ok (.astore 4, 2) := by decide +kernel
theorem dX8_ask_7 : decode cX8_ask 7 = .ok (.iload_n 1, 1) := by decide +kernel
theorem dX8_ask_8 : decode cX8_ask 8 = .ok (.aload_n 0, 1) := by decide +kernel
theorem dX8_ask_9 : decode cX8_ask 9 = .ok (.getfield 51, 3) := by decide +kernel
theorem dX8_ask_12 : decode cX8_ask 12 = .ok (.arraylength, 1) := by decide +kernel
theorem dX8_ask_13 : decode cX8_ask 13 = .ok (.invokestatic 72, 3) := by decide +kernel
theorem dX8_ask_16 : decode cX8_ask 16 = .ok (.ifCond .eq 17, 3) := by decide +kernel
theorem dX8_ask_19 : decode cX8_ask 19 = .ok (.aload 4, 2) := by decide +kernel
theorem dX8_ask_21 : decode cX8_ask 21 = .ok (.ifnull 12, 3) := by decide +kernel
theorem dX8_ask_24 : decode cX8_ask 24 = .ok (.iload_n 3, 1) := by decide +kernel
theorem dX8_ask_25 : decode cX8_ask 25 = .ok (.bipush 10, 2) := by decide +kernel
theorem dX8_ask_27 : decode cX8_ask 27 = .ok (.invokestatic 72, 3) := by decide +kernel
theorem dX8_ask_30 : decode cX8_ask 30 = .ok (.ifCond .ne 5, 3) := by decide +kernel
theorem dX8_ask_33 : decode cX8_ask 33 = .ok (.iconst (-1), 1) := by decide +kernel
theorem dX8_ask_34 : decode cX8_ask 34 = .ok (.ireturn, 1) := by decide +kernel
theorem dX8_ask_35 : decode cX8_ask 35 = .ok (.aload_n 0, 1) := by decide +kernel
theorem dX8_ask_36 : decode cX8_ask 36 = .ok (.aload 4, 2) := by decide +kernel
theorem dX8_ask_38 : decode cX8_ask 38 = .ok (.iload_n 1, 1) := by decide +kernel
theorem dX8_ask_39 : decode cX8_ask 39 = .ok (.invokevirtual 150, 3) := by decide +kernel
theorem dX8_ask_42 : decode cX8_ask 42 = .ok (.ifCond .ne 6, 3) := by decide +kernel
theorem dX8_ask_45 : decode cX8_ask 45 = .ok (.bipush (-4), 2) := by decide +kernel
theorem dX8_ask_47 : decode cX8_ask 47 = .ok (.ireturn, 1) := by decide +kernel
theorem dX8_ask_48 : decode cX8_ask 48 = .ok (.aload_n 0, 1) := by decide +kernel
theorem dX8_ask_49 : decode cX8_ask 49 = .ok (.getfield 51, 3) := by decide +kernel
theorem dX8_ask_52 : decode cX8_ask 52 = .ok (.iload_n 1, 1) := by decide +kernel
theorem dX8_ask_53 : decode cX8_ask 53 = .ok (.iaload, 1) := by decide +kernel
theorem dX8_ask_54 : decode cX8_ask 54 = .ok (.iconst 2, 1) := by decide +kernel
theorem dX8_ask_55 : decode cX8_ask 55 = .ok (.if_icmp .lt 6, 3) := by decide +kernel
theorem dX8_ask_58 : decode cX8_ask 58 = .ok (.bipush (-2), 2) := by decide +kernel
theorem dX8_ask_60 : decode cX8_ask 60 = .ok (.ireturn, 1) := by decide +kernel
theorem dX8_ask_61 : decode cX8_ask 61 = .ok (.aload_n 0, 1) := by decide +kernel
theorem dX8_ask_62 : decode cX8_ask 62 = .ok (.iload_n 2, 1) := by decide +kernel
theorem dX8_ask_63 : decode cX8_ask 63 = .ok (.iload_n 3, 1) := by decide +kernel
theorem dX8_ask_64 : decode cX8_ask 64 = .ok (.invokevirtual 187, 3) := by decide +kernel
theorem dX8_ask_67 : decode cX8_ask 67 = .ok (.istore 5, 2) := by decide +kernel
theorem dX8_ask_69 : decode cX8_ask 69 = .ok (.aload_n 0, 1) := by decide +kernel
theorem dX8_ask_70 : decode cX8_ask 70 = .ok (.iload 5, 2) := by decide +kernel
theorem dX8_ask_72 : decode cX8_ask 72 = .ok (.invokevirtual 190, 3) := by decide +kernel
theorem dX8_ask_75 : decode cX8_ask 75 = .ok (.astore 6, 2) := by decide +kernel
theorem dX8_ask_77 : decode cX8_ask 77 = .ok (.aload 6, 2) := by decide +kernel
theorem dX8_ask_79 : decode cX8_ask 79 = .ok (.ifnonnull 6, 3) := by decide +kernel
theorem dX8_ask_82 : decode cX8_ask 82 = .ok (.bipush (-3), 2) := by decide +kernel
theorem dX8_ask_84 : decode cX8_ask 84 = .ok (.ireturn, 1) := by decide +kernel
theorem dX8_ask_85 : decode cX8_ask 85 = .ok (.aload 6, 2) := by decide +kernel
theorem dX8_ask_87 : decode cX8_ask 87 = .ok (.iload_n 1, 1) := by decide +kernel
theorem dX8_ask_88 : decode cX8_ask 88 = .ok (.invokevirtual 194, 3) := by decide +kernel
theorem dX8_ask_91 : decode cX8_ask 91 = .ok (.aload_n 0, 1) := by decide +kernel
theorem dX8_ask_92 : decode cX8_ask 92 = .ok (.getfield 51, 3) := by decide +kernel
theorem dX8_ask_95 : decode cX8_ask 95 = .ok (.iload_n 1, 1) := by decide +kernel
theorem dX8_ask_96 : decode cX8_ask 96 = .ok (.dup2, 1) := by decide +kernel
theorem dX8_ask_97 : decode cX8_ask 97 = .ok (.iaload, 1) := by decide +kernel
theorem dX8_ask_98 : decode cX8_ask 98 = .ok (.iconst 1, 1) := by decide +kernel
theorem dX8_ask_99 : decode cX8_ask 99 = .ok (.iadd, 1) := by decide +kernel
theorem dX8_ask_100 : decode cX8_ask 100 = .ok (.iastore, 1) := by decide +kernel
theorem dX8_ask_101 : decode cX8_ask 101 = .ok (.iload 5, 2) := by decide +kernel
theorem dX8_ask_103 : decode cX8_ask 103 = .ok (.ireturn, 1) := by decide +kernel
set_option maxRecDepth 20000 in
theorem ggX8_answer_X8_questionNumber : GoodIn wsX8_answer wsX8_questionNumber := goodIn_r _ [5, 6, 7, 8, 4, 9, 33, 34, 35, 36, 37, 38, 39, 40, 41, 42, 43, 44] (by decide +kernel) (by decide +kernel)
set_option maxRecDepth 20000 in
theorem gX8_answer_X8_questionNumber : GoodIn wsX8_answer (wsV RX8 190 RX8 yX8_questionNumber wsX8_questionNumber) := goodIn_app (goodIn_of _ (by decide +kernel)) ggX8_answer_X8_questionNumber
set_option maxRecDepth 20000 in
theorem ggX8_answer_X8_isBelow : GoodIn wsX8_answer wsX8_isBelow := goodIn_r _ [9] (by decide +kernel) (by decide +kernel)
set_option maxRecDepth 20000 in
theorem gX8_answer_X8_isBelow : GoodIn wsX8_answer (va_wsS RX8 72 yX8_isBelow wsX8_isBelow) := goodIn_app (goodIn_of _ (by decide +kernel)) ggX8_answer_X8_isBelow
set_option maxRecDepth 20000 in
theorem ggX8_answer_X3_isAnswered : GoodIn wsX8_answer wsX3_isAnswered := goodIn_r _ [14, 15, 45, 46, 47, 48, 49] (by decide +kernel) (by decide +kernel)
set_option maxRecDepth 20000 in
theorem gX8_answer_X3_isAnswered : GoodIn wsX8_answer (wsV RX8 197 RX3 yX3_isAnswered wsX3_isAnswered) := goodIn_app (goodIn_of _ (by decide +kernel)) ggX8_answer_X3_isAnswered
set_option maxRecDepth 20000 in
theorem ggX8_answer_X3_settle : GoodIn wsX8_answer wsX3_settle := goodIn_r _ [19, 20, 15, 45, 46, 47, 48, 49] (by decide +kernel) (by decide +kernel)
set_option maxRecDepth 20000 in
theorem gX8_answer_X3_settle : GoodIn wsX8_answer (wsV RX8 200 RX3 yX3_settle wsX3_settle) := goodIn_app (goodIn_of _ (by decide +kernel)) ggX8_answer_X3_settle
set_option maxRecDepth 20000 in
theorem ggX8_answer_X3_askers : GoodIn wsX8_answer wsX3_askers := goodIn_r _ [24, 25, 45, 46, 47, 48, 49] (by decide +kernel) (by decide +kernel)
set_option maxRecDepth 20000 in
theorem gX8_answer_X3_askers : GoodIn wsX8_answer (wsV RX8 204 RX3 yX3_askers wsX3_askers) := goodIn_app (goodIn_of _ (by decide +kernel)) ggX8_answer_X3_askers
set_option maxRecDepth 20000 in
theorem ggX8_answer_J6_bitCount_0f7a4 : GoodIn wsX8_answer wsJ6_bitCount_0f7a4 := goodIn_r _ [29, 30, 31, 32] (by decide +kernel) (by decide +kernel)
set_option maxRecDepth 20000 in
theorem gX8_answer_J6_bitCount_0f7a4 : GoodIn wsX8_answer (va_wsS RX8 207 yJ6_bitCount_0f7a4 wsJ6_bitCount_0f7a4) := goodIn_app (goodIn_of _ (by decide +kernel)) ggX8_answer_J6_bitCount_0f7a4
theorem dX8_answer_0 : decode cX8_answer 0 = .ok (.aload_n 0, 1) := by decide +kernel
theorem dX8_answer_1 : decode cX8_answer 1 = .ok (.iload_n 1, 1) := by decide +kernel
theorem dX8_answer_2 : decode cX8_answer 2 = .ok (.invokevirtual 190, 3) := by decide +kernel
theorem dX8_answer_5 : decode cX8_answer 5 = .ok (.astore 4, 2) := by decide +kernel
theorem dX8_answer_7 : decode cX8_answer 7 = .ok (.aload 4, 2) := by decide +kernel
theorem dX8_answer_9 : decode cX8_answer 9 = .ok (.ifnull 13, 3) := by decide +kernel
theorem dX8_answer_12 : decode cX8_answer 12 = .ok (.iload_n 2, 1) := by decide +kernel
theorem dX8_answer_13 : decode cX8_answer 13 = .ok (.sipush 1000, 3) := by decide +kernel
theorem dX8_answer_16 : decode cX8_answer 16 = .ok (.invokestatic 72, 3) := by decide +kernel
theorem dX8_answer_19 : decode cX8_answer 19 = .ok (.ifCond .ne 5, 3) := by decide +kernel
theorem dX8_answer_22 : decode cX8_answer 22 = .ok (.iconst (-1), 1) := by decide +kernel
theorem dX8_answer_23 : decode cX8_answer 23 = .ok (.ireturn, 1) := by decide +kernel
theorem dX8_answer_24 : decode cX8_answer 24 = .ok (.aload 4, 2) := by decide +kernel
theorem dX8_answer_26 : decode cX8_answer 26 = .ok (.invokevirtual 197, 3) := by decide +kernel
theorem dX8_answer_29 : decode cX8_answer 29 = .ok (.ifCond .eq 6, 3) := by decide +kernel
theorem dX8_answer_32 : decode cX8_answer 32 = .ok (.bipush (-2), 2) := by decide +kernel
theorem dX8_answer_34 : decode cX8_answer 34 = .ok (.ireturn, 1) := by decide +kernel
theorem dX8_answer_35 : decode cX8_answer 35 = .ok (.aload 4, 2) := by decide +kernel
theorem dX8_answer_37 : decode cX8_answer 37 = .ok (.iload_n 2, 1) := by decide +kernel
theorem dX8_answer_38 : decode cX8_answer 38 = .ok (.iload_n 3, 1) := by decide +kernel
theorem dX8_answer_39 : decode cX8_answer 39 = .ok (.ifCond .eq 7, 3) := by decide +kernel
theorem dX8_answer_42 : decode cX8_answer 42 = .ok (.iconst 2, 1) := by decide +kernel
theorem dX8_answer_43 : decode cX8_answer 43 = .ok (.goto 4, 3) := by decide +kernel
theorem dX8_answer_46 : decode cX8_answer 46 = .ok (.iconst 1, 1) := by decide +kernel
theorem dX8_answer_47 : decode cX8_answer 47 = .ok (.invokevirtual 200, 3) := by decide +kernel
theorem dX8_answer_50 : decode cX8_answer 50 = .ok (.aload 4, 2) := by decide +kernel
theorem dX8_answer_52 : decode cX8_answer 52 = .ok (.invokevirtual 204, 3) := by decide +kernel
theorem dX8_answer_55 : decode cX8_answer 55 = .ok (.invokestatic 207, 3) := by decide +kernel
theorem dX8_answer_58 : decode cX8_answer 58 = .ok (.ireturn, 1) := by decide +kernel
set_option maxRecDepth 20000 in
theorem ggX8_hear_X8_questionNumber : GoodIn wsX8_hear wsX8_questionNumber := goodIn_r _ [5, 6, 7, 8, 4, 9, 67, 68, 69, 70, 71, 72, 73, 74, 75, 76, 77, 78] (by decide +kernel) (by decide +kernel)
set_option maxRecDepth 20000 in
theorem gX8_hear_X8_questionNumber : GoodIn wsX8_hear (wsV RX8 190 RX8 yX8_questionNumber wsX8_questionNumber) := goodIn_app (goodIn_of _ (by decide +kernel)) ggX8_hear_X8_questionNumber
set_option maxRecDepth 20000 in
theorem ggX8_hear_X8_isBelow : GoodIn wsX8_hear wsX8_isBelow := goodIn_r _ [9] (by decide +kernel) (by decide +kernel)
set_option maxRecDepth 20000 in
theorem gX8_hear_X8_isBelow : GoodIn wsX8_hear (va_wsS RX8 72 yX8_isBelow wsX8_isBelow) := goodIn_app (goodIn_of _ (by decide +kernel)) ggX8_hear_X8_isBelow
set_option maxRecDepth 20000 in
theorem ggX8_hear_X3_paperNumber : GoodIn wsX8_hear wsX3_paperNumber := goodIn_r _ [14, 15, 79, 80, 81, 82, 83] (by decide +kernel) (by decide +kernel)
set_option maxRecDepth 20000 in
theorem gX8_hear_X3_paperNumber : GoodIn wsX8_hear (wsV RX8 212 RX3 yX3_paperNumber wsX3_paperNumber) := goodIn_app (goodIn_of _ (by decide +kernel)) ggX8_hear_X3_paperNumber
set_option maxRecDepth 20000 in
theorem ggX8_hear_X8_paperNumber : GoodIn wsX8_hear wsX8_paperNumber := goodIn_r _ [19, 20, 7, 8, 4, 9, 67, 68, 69, 70, 71, 72, 73, 74, 75, 76, 77, 78] (by decide +kernel) (by decide +kernel)
set_option maxRecDepth 20000 in
theorem gX8_hear_X8_paperNumber : GoodIn wsX8_hear (wsV RX8 92 RX8 yX8_paperNumber wsX8_paperNumber) := goodIn_app (goodIn_of _ (by decide +kernel)) ggX8_hear_X8_paperNumber
set_option maxRecDepth 20000 in
theorem ggX8_hear_X8_isOpen : GoodIn wsX8_hear wsX8_isOpen := goodIn_r _ [24, 25, 26, 27, 28, 29, 30, 31, 32, 33, 34, 35, 36, 37, 38, 39, 40, 41, 42, 43, 44, 45, 46, 47, 48, 8, 4, 9, 49, 50, 51, 67, 68, 69, 70, 71, 72, 73, 74, 75, 76, 77, 78, 84, 85, 86, 87, 88, 89, 90, 91, 92, 93, 94, 95, 96, 97, 98] (by decide +kernel) (by decide +kernel)
set_option maxRecDepth 20000 in
theorem gX8_hear_X8_isOpen : GoodIn wsX8_hear (wsV RX8 150 RX8 yX8_isOpen wsX8_isOpen) := goodIn_app (goodIn_of _ (by decide +kernel)) ggX8_hear_X8_isOpen
set_option maxRecDepth 20000 in
theorem ggX8_hear_X3_isAnswered : GoodIn wsX8_hear wsX3_isAnswered := goodIn_r _ [55, 56, 79, 80, 81, 82, 83] (by decide +kernel) (by decide +kernel)
set_option maxRecDepth 20000 in
theorem gX8_hear_X3_isAnswered : GoodIn wsX8_hear (wsV RX8 197 RX3 yX3_isAnswered wsX3_isAnswered) := goodIn_app (goodIn_of _ (by decide +kernel)) ggX8_hear_X3_isAnswered
set_option maxRecDepth 20000 in
theorem ggX8_hear_X3_isFor : GoodIn wsX8_hear wsX3_isFor := goodIn_r _ [60, 56, 61, 79, 80, 81, 82, 83] (by decide +kernel) (by decide +kernel)
set_option maxRecDepth 20000 in
theorem gX8_hear_X3_isFor : GoodIn wsX8_hear (wsV RX8 214 RX3 yX3_isFor wsX3_isFor) := goodIn_app (goodIn_of _ (by decide +kernel)) ggX8_hear_X3_isFor
set_option maxRecDepth 20000 in
theorem ggX8_hear_X3_settled : GoodIn wsX8_hear wsX3_settled := goodIn_r _ [65, 66, 79, 80, 81, 82, 83] (by decide +kernel) (by decide +kernel)
set_option maxRecDepth 20000 in
theorem gX8_hear_X3_settled : GoodIn wsX8_hear (wsV RX8 218 RX3 yX3_settled wsX3_settled) := goodIn_app (goodIn_of _ (by decide +kernel)) ggX8_hear_X3_settled
theorem dX8_hear_0 : decode cX8_hear 0 = .ok (.aload_n 0, 1) := by decide +kernel
theorem dX8_hear_1 : decode cX8_hear 1 = .ok (.iload_n 2, 1) := by decide +kernel
theorem dX8_hear_2 : decode cX8_hear 2 = .ok (.invokevirtual 190, 3) := by decide +kernel
theorem dX8_hear_5 : decode cX8_hear 5 = .ok (.astore_n 3, 1) := by decide +kernel
theorem dX8_hear_6 : decode cX8_hear 6 = .ok (.iload_n 1, 1) := by decide +kernel
theorem dX8_hear_7 : decode cX8_hear 7 = .ok (.bipush 6, 2) := by decide +kernel
theorem dX8_hear_9 : decode cX8_hear 9 = .ok (.invokestatic 72, 3) := by decide +kernel
theorem dX8_hear_12 : decode cX8_hear 12 = .ok (.ifCond .eq 7, 3) := by decide +kernel
theorem dX8_hear_15 : decode cX8_hear 15 = .ok (.aload_n 3, 1) := by decide +kernel
theorem dX8_hear_16 : decode cX8_hear 16 = .ok (.ifnonnull 5, 3) := by decide +kernel
theorem dX8_hear_19 : decode cX8_hear 19 = .ok (.iconst (-1), 1) := by decide +kernel
theorem dX8_hear_20 : decode cX8_hear 20 = .ok (.ireturn, 1) := by decide +kernel
theorem dX8_hear_21 : decode cX8_hear 21 = .ok (.aload_n 0, 1) := by decide +kernel
theorem dX8_hear_22 : decode cX8_hear 22 = .ok (.aload_n 0, 1) := by decide +kernel
theorem dX8_hear_23 : decode cX8_hear 23 = .ok (.aload_n 3, 1) := by decide +kernel
theorem dX8_hear_24 : decode cX8_hear 24 = .ok (.invokevirtual 212, 3) := by decide +kernel
theorem dX8_hear_27 : decode cX8_hear 27 = .ok (.invokevirtual 92, 3) := by decide +kernel
theorem dX8_hear_30 : decode cX8_hear 30 = .ok (.iload_n 1, 1) := by decide +kernel
theorem dX8_hear_31 : decode cX8_hear 31 = .ok (.invokevirtual 150, 3) := by decide +kernel
theorem dX8_hear_34 : decode cX8_hear 34 = .ok (.ifCond .ne 6, 3) := by decide +kernel
theorem dX8_hear_37 : decode cX8_hear 37 = .ok (.bipush (-4), 2) := by decide +kernel
theorem dX8_hear_39 : decode cX8_hear 39 = .ok (.ireturn, 1) := by decide +kernel
theorem dX8_hear_40 : decode cX8_hear 40 = .ok (.aload_n 3, 1) := by decide +kernel
theorem dX8_hear_41 : decode cX8_hear 41 = .ok (.invokevirtual 197, 3) := by decide +kernel
theorem dX8_hear_44 : decode cX8_hear 44 = .ok (.ifCond .ne 6, 3) := by decide +kernel
theorem dX8_hear_47 : decode cX8_hear 47 = .ok (.bipush (-2), 2) := by decide +kernel
theorem dX8_hear_49 : decode cX8_hear 49 = .ok (.ireturn, 1) := by decide +kernel
theorem dX8_hear_50 : decode cX8_hear 50 = .ok (.aload_n 3, 1) := by decide +kernel
theorem dX8_hear_51 : decode cX8_hear 51 = .ok (.iload_n 1, 1) := by decide +kernel
theorem dX8_hear_52 : decode cX8_hear 52 = .ok (.invokevirtual 214, 3) := by decide +kernel
theorem dX8_hear_55 : decode cX8_hear 55 = .ok (.ifCond .eq 10, 3) := by decide +kernel
theorem dX8_hear_58 : decode cX8_hear 58 = .ok (.aload_n 3, 1) := by decide +kernel
theorem dX8_hear_59 : decode cX8_hear 59 = .ok (.invokevirtual 218, 3) := by decide +kernel
theorem dX8_hear_62 : decode cX8_hear 62 = .ok (.goto 5, 3) := by decide +kernel
theorem dX8_hear_65 : decode cX8_hear 65 = .ok (.bipush (-4), 2) := by decide +kernel
theorem dX8_hear_67 : decode cX8_hear 67 = .ok (.ireturn, 1) := by decide +kernel
set_option maxRecDepth 20000 in
theorem ggX8_question_X8_questionNumber : GoodIn wsX8_question wsX8_questionNumber := goodIn_r _ [5, 6, 7, 8, 4, 9, 31, 32, 33, 34, 35, 36, 37, 38, 39, 40, 41, 42] (by decide +kernel) (by decide +kernel)
set_option maxRecDepth 20000 in
theorem gX8_question_X8_questionNumber : GoodIn wsX8_question (wsV RX8 190 RX8 yX8_questionNumber wsX8_questionNumber) := goodIn_app (goodIn_of _ (by decide +kernel)) ggX8_question_X8_questionNumber
set_option maxRecDepth 20000 in
theorem ggX8_question_X3_paperNumber : GoodIn wsX8_question wsX3_paperNumber := goodIn_r _ [14, 15, 43, 44, 45, 46, 47] (by decide +kernel) (by decide +kernel)
set_option maxRecDepth 20000 in
theorem gX8_question_X3_paperNumber : GoodIn wsX8_question (wsV RX8 212 RX3 yX3_paperNumber wsX3_paperNumber) := goodIn_app (goodIn_of _ (by decide +kernel)) ggX8_question_X3_paperNumber
set_option maxRecDepth 20000 in
theorem ggX8_question_X3_topic : GoodIn wsX8_question wsX3_topic := goodIn_r _ [19, 20, 43, 44, 45, 46, 47] (by decide +kernel) (by decide +kernel)
set_option maxRecDepth 20000 in
theorem gX8_question_X3_topic : GoodIn wsX8_question (wsV RX8 221 RX3 yX3_topic wsX3_topic) := goodIn_app (goodIn_of _ (by decide +kernel)) ggX8_question_X3_topic
set_option maxRecDepth 20000 in
theorem ggX8_question_X3_askers : GoodIn wsX8_question wsX3_askers := goodIn_r _ [24, 25, 43, 44, 45, 46, 47] (by decide +kernel) (by decide +kernel)
set_option maxRecDepth 20000 in
theorem gX8_question_X3_askers : GoodIn wsX8_question (wsV RX8 204 RX3 yX3_askers wsX3_askers) := goodIn_app (goodIn_of _ (by decide +kernel)) ggX8_question_X3_askers
set_option maxRecDepth 20000 in
theorem ggX8_question_X3_reach : GoodIn wsX8_question wsX3_reach := goodIn_r _ [29, 30, 43, 44, 45, 46, 47] (by decide +kernel) (by decide +kernel)
set_option maxRecDepth 20000 in
theorem gX8_question_X3_reach : GoodIn wsX8_question (wsV RX8 224 RX3 yX3_reach wsX3_reach) := goodIn_app (goodIn_of _ (by decide +kernel)) ggX8_question_X3_reach
theorem dX8_question_0 : decode cX8_question 0 = .ok (.aload_n 0, 1) := by decide +kernel
theorem dX8_question_1 : decode cX8_question 1 = .ok (.iload_n 1, 1) := by decide +kernel
theorem dX8_question_2 : decode cX8_question 2 = .ok (.invokevirtual 190, 3) := by decide +kernel
theorem dX8_question_5 : decode cX8_question 5 = .ok (.astore_n 3, 1) := by decide +kernel
theorem dX8_question_6 : decode cX8_question 6 = .ok (.aload_n 3, 1) := by decide +kernel
theorem dX8_question_7 : decode cX8_question 7 = .ok (.ifnonnull 5, 3) := by decide +kernel
theorem dX8_question_10 : decode cX8_question 10 = .ok (.iconst (-1), 1) := by decide +kernel
theorem dX8_question_11 : decode cX8_question 11 = .ok (.ireturn, 1) := by decide +kernel
theorem dX8_question_12 : decode cX8_question 12 = .ok (.iload_n 2, 1) := by decide +kernel
theorem dX8_question_13 : decode cX8_question 13 = .ok (.tableswitch 51 0 3 #[31, 36, 41, 46], 31) := by decide +kernel
theorem dX8_question_44 : decode cX8_question 44 = .ok (.aload_n 3, 1) := by decide +kernel
theorem dX8_question_45 : decode cX8_question 45 = .ok (.invokevirtual 212, 3) := by decide +kernel
theorem dX8_question_48 : decode cX8_question 48 = .ok (.ireturn, 1) := by decide +kernel
theorem dX8_question_49 : decode cX8_question 49 = .ok (.aload_n 3, 1) := by decide +kernel
theorem dX8_question_50 : decode cX8_question 50 = .ok (.invokevirtual 221, 3) := by decide +kernel
theorem dX8_question_53 : decode cX8_question 53 = .ok (.ireturn, 1) := by decide +kernel
theorem dX8_question_54 : decode cX8_question 54 = .ok (.aload_n 3, 1) := by decide +kernel
theorem dX8_question_55 : decode cX8_question 55 = .ok (.invokevirtual 204, 3) := by decide +kernel
theorem dX8_question_58 : decode cX8_question 58 = .ok (.ireturn, 1) := by decide +kernel
theorem dX8_question_59 : decode cX8_question 59 = .ok (.aload_n 3, 1) := by decide +kernel
theorem dX8_question_60 : decode cX8_question 60 = .ok (.invokevirtual 224, 3) := by decide +kernel
theorem dX8_question_63 : decode cX8_question 63 = .ok (.ireturn, 1) := by decide +kernel
theorem dX8_question_64 : decode cX8_question 64 = .ok (.iconst (-1), 1) := by decide +kernel
theorem dX8_question_65 : decode cX8_question 65 = .ok (.ireturn, 1) := by decide +kernel
set_option maxRecDepth 20000 in
theorem ggX8_count_X5_length : GoodIn wsX8_count wsX5_length := goodIn_r _ [10, 11, 35, 36] (by decide +kernel) (by decide +kernel)
set_option maxRecDepth 20000 in
theorem gX8_count_X5_length : GoodIn wsX8_count (wsV RX8 66 RX5 yX5_length wsX5_length) := goodIn_app (goodIn_of _ (by decide +kernel)) ggX8_count_X5_length
set_option maxRecDepth 20000 in
theorem ggX8_count_X6_entries : GoodIn wsX8_count wsX6_entries := goodIn_r _ [16, 17, 37, 38, 39, 40, 41, 42, 43] (by decide +kernel) (by decide +kernel)
set_option maxRecDepth 20000 in
theorem gX8_count_X6_entries : GoodIn wsX8_count (wsV RX8 227 RX6 yX6_entries wsX6_entries) := goodIn_app (goodIn_of _ (by decide +kernel)) ggX8_count_X6_entries
set_option maxRecDepth 20000 in
theorem ggX8_count_X6_lost : GoodIn wsX8_count wsX6_lost := goodIn_r _ [21, 22, 37, 38, 39, 40, 41, 42, 43] (by decide +kernel) (by decide +kernel)
set_option maxRecDepth 20000 in
theorem gX8_count_X6_lost : GoodIn wsX8_count (wsV RX8 230 RX6 yX6_lost wsX6_lost) := goodIn_app (goodIn_of _ (by decide +kernel)) ggX8_count_X6_lost
theorem dX8_count_0 : decode cX8_count 0 = .ok (.iload_n 1, 1) := by decide +kernel
theorem dX8_count_1 : decode cX8_count 1 = .ok (.tableswitch 78 0 5 #[39, 44, 49, 57, 65, 73], 39) := by decide +kernel
theorem dX8_count_40 : decode cX8_count 40 = .ok (.aload_n 0, 1) := by decide +kernel
theorem dX8_count_41 : decode cX8_count 41 = .ok (.getfield 76, 3) := by decide +kernel
theorem dX8_count_44 : decode cX8_count 44 = .ok (.ireturn, 1) := by decide +kernel
theorem dX8_count_45 : decode cX8_count 45 = .ok (.aload_n 0, 1) := by decide +kernel
theorem dX8_count_46 : decode cX8_count 46 = .ok (.getfield 122, 3) := by decide +kernel
theorem dX8_count_49 : decode cX8_count 49 = .ok (.ireturn, 1) := by decide +kernel
theorem dX8_count_50 : decode cX8_count 50 = .ok (.aload_n 0, 1) := by decide +kernel
theorem dX8_count_51 : decode cX8_count 51 = .ok (.getfield 14, 3) := by decide +kernel
theorem dX8_count_54 : decode cX8_count 54 = .ok (.invokevirtual 66, 3) := by decide +kernel
theorem dX8_count_57 : decode cX8_count 57 = .ok (.ireturn, 1) := by decide +kernel
theorem dX8_count_58 : decode cX8_count 58 = .ok (.aload_n 0, 1) := by decide +kernel
theorem dX8_count_59 : decode cX8_count 59 = .ok (.getfield 41, 3) := by decide +kernel
theorem dX8_count_62 : decode cX8_count 62 = .ok (.invokevirtual 227, 3) := by decide +kernel
theorem dX8_count_65 : decode cX8_count 65 = .ok (.ireturn, 1) := by decide +kernel
theorem dX8_count_66 : decode cX8_count 66 = .ok (.aload_n 0, 1) := by decide +kernel
theorem dX8_count_67 : decode cX8_count 67 = .ok (.getfield 41, 3) := by decide +kernel
theorem dX8_count_70 : decode cX8_count 70 = .ok (.invokevirtual 230, 3) := by decide +kernel
theorem dX8_count_73 : decode cX8_count 73 = .ok (.ireturn, 1) := by decide +kernel
theorem dX8_count_74 : decode cX8_count 74 = .ok (.aload_n 0, 1) := by decide +kernel
theorem dX8_count_75 : decode cX8_count 75 = .ok (.getfield 233, 3) := by decide +kernel
theorem dX8_count_78 : decode cX8_count 78 = .ok (.ireturn, 1) := by decide +kernel
theorem dX8_count_79 : decode cX8_count 79 = .ok (.iconst (-1), 1) := by decide +kernel
theorem dX8_count_80 : decode cX8_count 80 = .ok (.ireturn, 1) := by decide +kernel
theorem dX8_trace_0 : decode cX8_trace 0 = .ok (.aload_n 0, 1) := by decide +kernel
theorem dX8_trace_1 : decode cX8_trace 1 = .ok (.getfield 143, 3) := by decide +kernel
theorem dX8_trace_4 : decode cX8_trace 4 = .ok (.lreturn, 1) := by decide +kernel
theorem dX8_isBelow_0 : decode cX8_isBelow 0 = .ok (.iload_n 0, 1) := by decide +kernel
theorem dX8_isBelow_1 : decode cX8_isBelow 1 = .ok (.ifCond .lt 12, 3) := by decide +kernel
theorem dX8_isBelow_4 : decode cX8_isBelow 4 = .ok (.iload_n 0, 1) := by decide +kernel
theorem dX8_isBelow_5 : decode cX8_isBelow 5 = .ok (.iload_n 1, 1) := by decide +kernel
theorem dX8_isBelow_6 : decode cX8_isBelow 6 = .ok (.if_icmp .ge 7, 3) := by decide +kernel
theorem dX8_isBelow_9 : decode cX8_isBelow 9 = .ok (.iconst 1, 1) := by decide +kernel
theorem dX8_isBelow_10 : decode cX8_isBelow 10 = .ok (.goto 4, 3) := by decide +kernel
theorem dX8_isBelow_13 : decode cX8_isBelow 13 = .ok (.iconst 0, 1) := by decide +kernel
theorem dX8_isBelow_14 : decode cX8_isBelow 14 = .ok (.ireturn, 1) := by decide +kernel
theorem dX8_byteOf_0 : decode cX8_byteOf 0 = .ok (.lload_n 0, 1) := by decide +kernel
theorem dX8_byteOf_1 : decode cX8_byteOf 1 = .ok (.bipush 8, 2) := by decide +kernel
theorem dX8_byteOf_3 : decode cX8_byteOf 3 = .ok (.iload_n 2, 1) := by decide +kernel
theorem dX8_byteOf_4 : decode cX8_byteOf 4 = .ok (.imul, 1) := by decide +kernel
theorem dX8_byteOf_5 : decode cX8_byteOf 5 = .ok (.lushr, 1) := by decide +kernel
theorem dX8_byteOf_6 : decode cX8_byteOf 6 = .ok (.l2i, 1) := by decide +kernel
theorem dX8_byteOf_7 : decode cX8_byteOf 7 = .ok (.sipush 255, 3) := by decide +kernel
theorem dX8_byteOf_10 : decode cX8_byteOf 10 = .ok (.iand, 1) := by decide +kernel
theorem dX8_byteOf_11 : decode cX8_byteOf 11 = .ok (.ireturn, 1) := by decide +kernel
set_option maxRecDepth 20000 in
theorem ggX8_newPaper_X0_init : GoodIn wsX8_newPaper wsX0_init := goodIn_r _ [12, 13, 14, 15, 9, 16, 17, 18, 19, 20, 21, 22, 28, 29, 30, 31, 32, 33, 34, 35, 36, 37, 38, 39, 40] (by decide +kernel) (by decide +kernel)
set_option maxRecDepth 20000 in
theorem gX8_newPaper_X0_init : GoodIn wsX8_newPaper (wsX0_init) := ggX8_newPaper_X0_init
set_option maxRecDepth 20000 in
theorem ggX8_newPaper_X1_init : GoodIn wsX8_newPaper wsX1_init := goodIn_r _ [25, 26, 15, 9, 16, 17, 18, 19, 20, 21, 22, 28, 29, 30, 31, 32, 33, 34, 35, 36, 37, 38, 39, 40] (by decide +kernel) (by decide +kernel)
set_option maxRecDepth 20000 in
theorem gX8_newPaper_X1_init : GoodIn wsX8_newPaper (wsX1_init) := ggX8_newPaper_X1_init
set_option maxRecDepth 20000 in
theorem ggX8_newPaper_X2_init : GoodIn wsX8_newPaper wsX2_init := goodIn_r _ [16, 17, 18, 19, 20, 21, 22, 28, 29, 30, 31, 32, 33, 34, 35, 36, 37, 38, 39, 40] (by decide +kernel) (by decide +kernel)
set_option maxRecDepth 20000 in
theorem gX8_newPaper_X2_init : GoodIn wsX8_newPaper (wsX2_init) := ggX8_newPaper_X2_init
theorem dX8_newPaper_0 : decode cX8_newPaper 0 = .ok (.iload_n 0, 1) := by decide +kernel
theorem dX8_newPaper_1 : decode cX8_newPaper 1 = .ok (.lookupswitch 46 #[(1, 27), (2, 37)], 27) := by decide +kernel
theorem dX8_newPaper_28 : decode cX8_newPaper 28 = .ok (.new 236, 3) := by decide +kernel
theorem dX8_newPaper_31 : decode cX8_newPaper 31 = .ok (.dup, 1) := by decide +kernel
theorem dX8_newPaper_32 : decode cX8_newPaper 32 = .ok (.iload_n 1, 1) := by decide +kernel
theorem dX8_newPaper_33 : decode cX8_newPaper 33 = .ok (.iload_n 2, 1) := by decide +kernel
theorem dX8_newPaper_34 : decode cX8_newPaper 34 = .ok (.invokespecial 238, 3) := by decide +kernel
theorem dX8_newPaper_37 : decode cX8_newPaper 37 = .ok (.areturn, 1) := by decide +kernel
theorem dX8_newPaper_38 : decode cX8_newPaper 38 = .ok (.new 240, 3) := by decide +kernel
theorem dX8_newPaper_41 : decode cX8_newPaper 41 = .ok (.dup, 1) := by decide +kernel
theorem dX8_newPaper_42 : decode cX8_newPaper 42 = .ok (.iload_n 1, 1) := by decide +kernel
theorem dX8_newPaper_43 : decode cX8_newPaper 43 = .ok (.invokespecial 242, 3) := by decide +kernel
theorem dX8_newPaper_46 : decode cX8_newPaper 46 = .ok (.areturn, 1) := by decide +kernel

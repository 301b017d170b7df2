theorem dX8_newPaper_47 : decode cX8_newPaper 47 = .ok (.new 25, 3) := by decide +kernel
theorem dX8_newPaper_50 : decode cX8_newPaper 50 = .ok (.dup, 1) := by decide +kernel
theorem dX8_newPaper_51 : decode cX8_newPaper 51 = .ok (.iload_n 1, 1) := by decide +kernel
theorem dX8_newPaper_52 : decode cX8_newPaper 52 = .ok (.invokespecial 243, 3) := by decide +kernel
theorem dX8_newPaper_55 : decode cX8_newPaper 55 = .ok (.areturn, 1) := by decide +kernel
set_option maxRecDepth 20000 in
theorem ggX8_takeDraft_X7_init : GoodIn wsX8_takeDraft wsX7_init := goodIn_r _ [7, 8, 9, 10, 11, 12, 13, 14, 15, 16, 17, 18, 19, 20, 21, 22, 23, 24, 25, 26, 27, 28, 29, 30, 31, 32, 33, 34, 35, 36, 37, 38, 39, 40, 41, 42, 43, 62, 63, 48, 49] (by decide +kernel) (by decide +kernel)
set_option maxRecDepth 20000 in
theorem gX8_takeDraft_X7_init : GoodIn wsX8_takeDraft (wsX7_init) := ggX8_takeDraft_X7_init
set_option maxRecDepth 20000 in
theorem ggX8_takeDraft_X5_empty : GoodIn wsX8_takeDraft wsX5_empty := goodIn_r _ [47, 25, 62, 63] (by decide +kernel) (by decide +kernel)
set_option maxRecDepth 20000 in
theorem gX8_takeDraft_X5_empty : GoodIn wsX8_takeDraft (wsV RX8 69 RX5 yX5_empty wsX5_empty) := goodIn_app (goodIn_of _ (by decide +kernel)) ggX8_takeDraft_X5_empty
theorem dX8_takeDraft_0 : decode cX8_takeDraft 0 = .ok (.new 108, 3) := by decide +kernel
theorem dX8_takeDraft_3 : decode cX8_takeDraft 3 = .ok (.dup, 1) := by decide +kernel
theorem dX8_takeDraft_4 : decode cX8_takeDraft 4 = .ok (.aload_n 0, 1) := by decide +kernel
theorem dX8_takeDraft_5 : decode cX8_takeDraft 5 = .ok (.getfield 14, 3) := by decide +kernel
theorem dX8_takeDraft_8 : decode cX8_takeDraft 8 = .ok (.invokespecial 244, 3) := by decide +kernel
theorem dX8_takeDraft_11 : decode cX8_takeDraft 11 = .ok (.astore_n 1, 1) := by decide +kernel
theorem dX8_takeDraft_12 : decode cX8_takeDraft 12 = .ok (.aload_n 0, 1) := by decide +kernel
theorem dX8_takeDraft_13 : decode cX8_takeDraft 13 = .ok (.getfield 14, 3) := by decide +kernel
theorem dX8_takeDraft_16 : decode cX8_takeDraft 16 = .ok (.invokevirtual 69, 3) := by decide +kernel
theorem dX8_takeDraft_19 : decode cX8_takeDraft 19 = .ok (.aload_n 1, 1) := by decide +kernel
theorem dX8_takeDraft_20 : decode cX8_takeDraft 20 = .ok (.areturn, 1) := by decide +kernel
set_option maxRecDepth 20000 in
theorem ggX8_paperNumber_X8_isBelow : GoodIn wsX8_paperNumber wsX8_isBelow := goodIn_r _ [5] (by decide +kernel) (by decide +kernel)
set_option maxRecDepth 20000 in
theorem gX8_paperNumber_X8_isBelow : GoodIn wsX8_paperNumber (va_wsS RX8 72 yX8_isBelow wsX8_isBelow) := goodIn_app (goodIn_of _ (by decide +kernel)) ggX8_paperNumber_X8_isBelow
theorem dX8_paperNumber_0 : decode cX8_paperNumber 0 = .ok (.iload_n 1, 1) := by decide +kernel
theorem dX8_paperNumber_1 : decode cX8_paperNumber 1 = .ok (.aload_n 0, 1) := by decide +kernel
theorem dX8_paperNumber_2 : decode cX8_paperNumber 2 = .ok (.getfield 27, 3) := by decide +kernel
theorem dX8_paperNumber_5 : decode cX8_paperNumber 5 = .ok (.arraylength, 1) := by decide +kernel
theorem dX8_paperNumber_6 : decode cX8_paperNumber 6 = .ok (.invokestatic 72, 3) := by decide +kernel
theorem dX8_paperNumber_9 : decode cX8_paperNumber 9 = .ok (.ifCond .eq 12, 3) := by decide +kernel
theorem dX8_paperNumber_12 : decode cX8_paperNumber 12 = .ok (.aload_n 0, 1) := by decide +kernel
theorem dX8_paperNumber_13 : decode cX8_paperNumber 13 = .ok (.getfield 27, 3) := by decide +kernel
theorem dX8_paperNumber_16 : decode cX8_paperNumber 16 = .ok (.iload_n 1, 1) := by decide +kernel
theorem dX8_paperNumber_17 : decode cX8_paperNumber 17 = .ok (.aaload, 1) := by decide +kernel
theorem dX8_paperNumber_18 : decode cX8_paperNumber 18 = .ok (.goto 4, 3) := by decide +kernel
theorem dX8_paperNumber_21 : decode cX8_paperNumber 21 = .ok (.aconst_null, 1) := by decide +kernel
theorem dX8_paperNumber_22 : decode cX8_paperNumber 22 = .ok (.areturn, 1) := by decide +kernel
set_option maxRecDepth 20000 in
theorem ggX8_textOf_X2_text : GoodIn wsX8_textOf wsX2_text := goodIn_r _ [6, 7, 8, 9, 10, 14, 15, 16, 17, 18, 19, 20, 21, 22, 23, 24, 25, 26] (by decide +kernel) (by decide +kernel)
set_option maxRecDepth 20000 in
theorem gX8_textOf_X2_text_u247X0 : GoodIn wsX8_textOf (va_wsU RX8 247 RX0 "PaperRoom$Paper" ⟨"PaperRoom$Paper", "text", "(I)LPaperRoom$Text;"⟩ yX2_text wsX2_text) := goodIn_app (goodIn_of _ (by decide +kernel)) ggX8_textOf_X2_text
set_option maxRecDepth 20000 in
theorem gX8_textOf_X2_text_u247X1 : GoodIn wsX8_textOf (va_wsU RX8 247 RX1 "PaperRoom$Paper" ⟨"PaperRoom$Paper", "text", "(I)LPaperRoom$Text;"⟩ yX2_text wsX2_text) := goodIn_app (goodIn_of _ (by decide +kernel)) ggX8_textOf_X2_text
set_option maxRecDepth 20000 in
theorem gX8_textOf_X2_text : GoodIn wsX8_textOf (wsV RX8 247 RX2 yX2_text wsX2_text) := goodIn_app (goodIn_of _ (by decide +kernel)) ggX8_textOf_X2_text
theorem dX8_textOf_0 : decode cX8_textOf 0 = .ok (.aload_n 0, 1) := by decide +kernel
theorem dX8_textOf_1 : decode cX8_textOf 1 = .ok (.ifnonnull 7, 3) := by decide +kernel
theorem dX8_textOf_4 : decode cX8_textOf 4 = .ok (.aconst_null, 1) := by decide +kernel
theorem dX8_textOf_5 : decode cX8_textOf 5 = .ok (.goto 8, 3) := by decide +kernel
theorem dX8_textOf_8 : decode cX8_textOf 8 = .ok (.aload_n 0, 1) := by decide +kernel
theorem dX8_textOf_9 : decode cX8_textOf 9 = .ok (.iload_n 1, 1) := by decide +kernel
theorem dX8_textOf_10 : decode cX8_textOf 10 = .ok (.invokevirtual 247, 3) := by decide +kernel
theorem dX8_textOf_13 : decode cX8_textOf 13 = .ok (.areturn, 1) := by decide +kernel
set_option maxRecDepth 20000 in
theorem ggX8_lastViewOf_X8_isBelow : GoodIn wsX8_lastViewOf wsX8_isBelow := goodIn_r _ [5] (by decide +kernel) (by decide +kernel)
set_option maxRecDepth 20000 in
theorem gX8_lastViewOf_X8_isBelow : GoodIn wsX8_lastViewOf (va_wsS RX8 72 yX8_isBelow wsX8_isBelow) := goodIn_app (goodIn_of _ (by decide +kernel)) ggX8_lastViewOf_X8_isBelow
theorem dX8_lastViewOf_0 : decode cX8_lastViewOf 0 = .ok (.iload_n 1, 1) := by decide +kernel
theorem dX8_lastViewOf_1 : decode cX8_lastViewOf 1 = .ok (.aload_n 0, 1) := by decide +kernel
theorem dX8_lastViewOf_2 : decode cX8_lastViewOf 2 = .ok (.getfield 31, 3) := by decide +kernel
theorem dX8_lastViewOf_5 : decode cX8_lastViewOf 5 = .ok (.arraylength, 1) := by decide +kernel
theorem dX8_lastViewOf_6 : decode cX8_lastViewOf 6 = .ok (.invokestatic 72, 3) := by decide +kernel
theorem dX8_lastViewOf_9 : decode cX8_lastViewOf 9 = .ok (.ifCond .eq 12, 3) := by decide +kernel
theorem dX8_lastViewOf_12 : decode cX8_lastViewOf 12 = .ok (.aload_n 0, 1) := by decide +kernel
theorem dX8_lastViewOf_13 : decode cX8_lastViewOf 13 = .ok (.getfield 31, 3) := by decide +kernel
theorem dX8_lastViewOf_16 : decode cX8_lastViewOf 16 = .ok (.iload_n 1, 1) := by decide +kernel
theorem dX8_lastViewOf_17 : decode cX8_lastViewOf 17 = .ok (.aaload, 1) := by decide +kernel
theorem dX8_lastViewOf_18 : decode cX8_lastViewOf 18 = .ok (.goto 4, 3) := by decide +kernel
theorem dX8_lastViewOf_21 : decode cX8_lastViewOf 21 = .ok (.aconst_null, 1) := by decide +kernel
theorem dX8_lastViewOf_22 : decode cX8_lastViewOf 22 = .ok (.areturn, 1) := by decide +kernel
set_option maxRecDepth 20000 in
theorem ggX8_isOpen_X0_isOpenTo : GoodIn wsX8_isOpen wsX0_isOpenTo := goodIn_r _ [9, 10, 11, 4, 12, 13, 14, 15, 16, 17, 18, 19, 20, 21, 22, 23, 24, 25, 26, 27, 43, 44, 45, 46, 47, 48, 49, 50, 51, 52, 53, 54, 55, 56, 57] (by decide +kernel) (by decide +kernel)
set_option maxRecDepth 20000 in
theorem gX8_isOpen_X0_isOpenTo_u251X0 : GoodIn wsX8_isOpen (va_wsO RX8 251 RX0 "PaperRoom$Paper" ⟨"PaperRoom$Paper", "isOpenTo", "(ILPaperRoom$Rights;I)Z"⟩ yX0_isOpenTo wsX0_isOpenTo) := goodIn_app (goodIn_of _ (by decide +kernel)) ggX8_isOpen_X0_isOpenTo
set_option maxRecDepth 20000 in
theorem ggX8_isOpen_X2_isOpenTo : GoodIn wsX8_isOpen wsX2_isOpenTo := goodIn_r _ [15, 16, 17, 18, 19, 20, 21, 22, 23, 24, 25, 26, 27, 43, 44, 45, 46, 47, 48, 49, 50, 51, 52, 53, 54, 55, 56, 57] (by decide +kernel) (by decide +kernel)
set_option maxRecDepth 20000 in
theorem gX8_isOpen_X2_isOpenTo_u251X1 : GoodIn wsX8_isOpen (va_wsU RX8 251 RX1 "PaperRoom$Paper" ⟨"PaperRoom$Paper", "isOpenTo", "(ILPaperRoom$Rights;I)Z"⟩ yX2_isOpenTo wsX2_isOpenTo) := goodIn_app (goodIn_of _ (by decide +kernel)) ggX8_isOpen_X2_isOpenTo
set_option maxRecDepth 20000 in
theorem gX8_isOpen_X2_isOpenTo : GoodIn wsX8_isOpen (wsV RX8 251 RX2 yX2_isOpenTo wsX2_isOpenTo) := goodIn_app (goodIn_of _ (by decide +kernel)) ggX8_isOpen_X2_isOpenTo
theorem dX8_isOpen_0 : decode cX8_isOpen 0 = .ok (.aload_n 1, 1) := by decide +kernel
theorem dX8_isOpen_1 : decode cX8_isOpen 1 = .ok (.ifnull 25, 3) := by decide +kernel
theorem dX8_isOpen_4 : decode cX8_isOpen 4 = .ok (.aload_n 1, 1) := by decide +kernel
theorem dX8_isOpen_5 : decode cX8_isOpen 5 = .ok (.iload_n 2, 1) := by decide +kernel
theorem dX8_isOpen_6 : decode cX8_isOpen 6 = .ok (.iconst 3, 1) := by decide +kernel
theorem dX8_isOpen_7 : decode cX8_isOpen 7 = .ok (.irem, 1) := by decide +kernel
theorem dX8_isOpen_8 : decode cX8_isOpen 8 = .ok (.aload_n 0, 1) := by decide +kernel
theorem dX8_isOpen_9 : decode cX8_isOpen 9 = .ok (.getfield 21, 3) := by decide +kernel
theorem dX8_isOpen_12 : decode cX8_isOpen 12 = .ok (.aload_n 0, 1) := by decide +kernel
theorem dX8_isOpen_13 : decode cX8_isOpen 13 = .ok (.getfield 122, 3) := by decide +kernel
theorem dX8_isOpen_16 : decode cX8_isOpen 16 = .ok (.invokevirtual 251, 3) := by decide +kernel
theorem dX8_isOpen_19 : decode cX8_isOpen 19 = .ok (.ifCond .eq 7, 3) := by decide +kernel
theorem dX8_isOpen_22 : decode cX8_isOpen 22 = .ok (.iconst 1, 1) := by decide +kernel
theorem dX8_isOpen_23 : decode cX8_isOpen 23 = .ok (.goto 4, 3) := by decide +kernel
theorem dX8_isOpen_26 : decode cX8_isOpen 26 = .ok (.iconst 0, 1) := by decide +kernel
theorem dX8_isOpen_27 : decode cX8_isOpen 27 = .ok (.ireturn, 1) := by decide +kernel
set_option maxRecDepth 20000 in
theorem ggX8_isFoundIn_X8_isOpen : GoodIn wsX8_isFoundIn wsX8_isOpen := goodIn_r _ [6, 7, 8, 9, 10, 11, 12, 13, 14, 15, 16, 17, 18, 19, 20, 21, 22, 23, 24, 25, 26, 27, 28, 29, 30, 31, 5, 32, 33, 34, 35, 84, 85, 86, 87, 88, 89, 90, 91, 92, 93, 94, 95, 96, 97, 98, 99, 100, 101, 102, 103, 104, 105, 106, 107, 108, 109, 110] (by decide +kernel) (by decide +kernel)
set_option maxRecDepth 20000 in
theorem gX8_isFoundIn_X8_isOpen : GoodIn wsX8_isFoundIn (wsV RX8 150 RX8 yX8_isOpen wsX8_isOpen) := goodIn_app (goodIn_of _ (by decide +kernel)) ggX8_isFoundIn_X8_isOpen
set_option maxRecDepth 20000 in
theorem ggX8_isFoundIn_X2_versions : GoodIn wsX8_isFoundIn wsX2_versions := goodIn_r _ [40, 41, 96, 97, 98, 99, 100, 101, 102, 103, 104, 105, 106, 107, 108] (by decide +kernel) (by decide +kernel)
set_option maxRecDepth 20000 in
theorem gX8_isFoundIn_X2_versions_u137X0 : GoodIn wsX8_isFoundIn (va_wsU RX8 137 RX0 "PaperRoom$Paper" ⟨"PaperRoom$Paper", "versions", "()I"⟩ yX2_versions wsX2_versions) := goodIn_app (goodIn_of _ (by decide +kernel)) ggX8_isFoundIn_X2_versions
set_option maxRecDepth 20000 in
theorem gX8_isFoundIn_X2_versions_u137X1 : GoodIn wsX8_isFoundIn (va_wsU RX8 137 RX1 "PaperRoom$Paper" ⟨"PaperRoom$Paper", "versions", "()I"⟩ yX2_versions wsX2_versions) := goodIn_app (goodIn_of _ (by decide +kernel)) ggX8_isFoundIn_X2_versions
set_option maxRecDepth 20000 in
theorem gX8_isFoundIn_X2_versions : GoodIn wsX8_isFoundIn (wsV RX8 137 RX2 yX2_versions wsX2_versions) := goodIn_app (goodIn_of _ (by decide +kernel)) ggX8_isFoundIn_X2_versions
set_option maxRecDepth 20000 in
theorem ggX8_isFoundIn_X2_text : GoodIn wsX8_isFoundIn wsX2_text := goodIn_r _ [49, 50, 31, 5, 32, 96, 97, 98, 99, 100, 101, 102, 103, 104, 105, 106, 107, 108] (by decide +kernel) (by decide +kernel)
set_option maxRecDepth 20000 in
theorem gX8_isFoundIn_X2_text_u247X0 : GoodIn wsX8_isFoundIn (va_wsU RX8 247 RX0 "PaperRoom$Paper" ⟨"PaperRoom$Paper", "text", "(I)LPaperRoom$Text;"⟩ yX2_text wsX2_text) := goodIn_app (goodIn_of _ (by decide +kernel)) ggX8_isFoundIn_X2_text
set_option maxRecDepth 20000 in
theorem gX8_isFoundIn_X2_text_u247X1 : GoodIn wsX8_isFoundIn (va_wsU RX8 247 RX1 "PaperRoom$Paper" ⟨"PaperRoom$Paper", "text", "(I)LPaperRoom$Text;"⟩ yX2_text wsX2_text) := goodIn_app (goodIn_of _ (by decide +kernel)) ggX8_isFoundIn_X2_text
set_option maxRecDepth 20000 in
theorem gX8_isFoundIn_X2_text : GoodIn wsX8_isFoundIn (wsV RX8 247 RX2 yX2_text wsX2_text) := goodIn_app (goodIn_of _ (by decide +kernel)) ggX8_isFoundIn_X2_text
set_option maxRecDepth 20000 in
theorem ggX8_isFoundIn_X7_holds : GoodIn wsX8_isFoundIn wsX7_holds := goodIn_r _ [58, 59, 60, 61, 57, 62, 63, 64, 65, 66, 67, 68, 69, 70, 71, 72, 73, 74, 75, 76, 77, 78, 31, 5, 32, 79, 80, 81, 82, 83, 111, 112, 113, 114] (by decide +kernel) (by decide +kernel)
set_option maxRecDepth 20000 in
theorem gX8_isFoundIn_X7_holds : GoodIn wsX8_isFoundIn (wsV RX8 255 RX7 yX7_holds wsX7_holds) := goodIn_app (goodIn_of _ (by decide +kernel)) ggX8_isFoundIn_X7_holds
theorem dX8_isFoundIn_0 : decode cX8_isFoundIn 0 = .ok (.aload_n 1, 1) := by decide +kernel
theorem dX8_isFoundIn_1 : decode cX8_isFoundIn 1 = .ok (.ifnull 12, 3) := by decide +kernel
theorem dX8_isFoundIn_4 : decode cX8_isFoundIn 4 = .ok (.aload_n 0, 1) := by decide +kernel
theorem dX8_isFoundIn_5 : decode cX8_isFoundIn 5 = .ok (.aload_n 1, 1) := by decide +kernel
theorem dX8_isFoundIn_6 : decode cX8_isFoundIn 6 = .ok (.iload_n 2, 1) := by decide +kernel
theorem dX8_isFoundIn_7 : decode cX8_isFoundIn 7 = .ok (.invokevirtual 150, 3) := by decide +kernel
theorem dX8_isFoundIn_10 : decode cX8_isFoundIn 10 = .ok (.ifCond .ne 5, 3) := by decide +kernel
theorem dX8_isFoundIn_13 : decode cX8_isFoundIn 13 = .ok (.iconst 0, 1) := by decide +kernel
theorem dX8_isFoundIn_14 : decode cX8_isFoundIn 14 = .ok (.ireturn, 1) := by decide +kernel
theorem dX8_isFoundIn_15 : decode cX8_isFoundIn 15 = .ok (.aload_n 1, 1) := by decide +kernel
theorem dX8_isFoundIn_16 : decode cX8_isFoundIn 16 = .ok (.aload_n 1, 1) := by decide +kernel
theorem dX8_isFoundIn_17 : decode cX8_isFoundIn 17 = .ok (.invokevirtual 137, 3) := by decide +kernel
theorem dX8_isFoundIn_20 : decode cX8_isFoundIn 20 = .ok (.iconst 1, 1) := by decide +kernel
theorem dX8_isFoundIn_21 : decode cX8_isFoundIn 21 = .ok (.isub, 1) := by decide +kernel
theorem dX8_isFoundIn_22 : decode cX8_isFoundIn 22 = .ok (.invokevirtual 247, 3) := by decide +kernel
theorem dX8_isFoundIn_25 : decode cX8_isFoundIn 25 = .ok (.astore_n 3, 1) := by decide +kernel
theorem dX8_isFoundIn_26 : decode cX8_isFoundIn 26 = .ok (.aload_n 3, 1) := by decide +kernel
theorem dX8_isFoundIn_27 : decode cX8_isFoundIn 27 = .ok (.ifnull 18, 3) := by decide +kernel
theorem dX8_isFoundIn_30 : decode cX8_isFoundIn 30 = .ok (.aload_n 3, 1) := by decide +kernel
theorem dX8_isFoundIn_31 : decode cX8_isFoundIn 31 = .ok (.aload_n 0, 1) := by decide +kernel
theorem dX8_isFoundIn_32 : decode cX8_isFoundIn 32 = .ok (.getfield 14, 3) := by decide +kernel
theorem dX8_isFoundIn_35 : decode cX8_isFoundIn 35 = .ok (.invokevirtual 255, 3) := by decide +kernel
theorem dX8_isFoundIn_38 : decode cX8_isFoundIn 38 = .ok (.ifCond .eq 7, 3) := by decide +kernel
theorem dX8_isFoundIn_41 : decode cX8_isFoundIn 41 = .ok (.iconst 1, 1) := by decide +kernel
theorem dX8_isFoundIn_42 : decode cX8_isFoundIn 42 = .ok (.goto 4, 3) := by decide +kernel
theorem dX8_isFoundIn_45 : decode cX8_isFoundIn 45 = .ok (.iconst 0, 1) := by decide +kernel
theorem dX8_isFoundIn_46 : decode cX8_isFoundIn 46 = .ok (.ireturn, 1) := by decide +kernel
set_option maxRecDepth 20000 in
theorem ggX8_questionNumber_X8_isBelow : GoodIn wsX8_questionNumber wsX8_isBelow := goodIn_r _ [5] (by decide +kernel) (by decide +kernel)
set_option maxRecDepth 20000 in
theorem gX8_questionNumber_X8_isBelow : GoodIn wsX8_questionNumber (va_wsS RX8 72 yX8_isBelow wsX8_isBelow) := goodIn_app (goodIn_of _ (by decide +kernel)) ggX8_questionNumber_X8_isBelow
theorem dX8_questionNumber_0 : decode cX8_questionNumber 0 = .ok (.iload_n 1, 1) := by decide +kernel
theorem dX8_questionNumber_1 : decode cX8_questionNumber 1 = .ok (.aload_n 0, 1) := by decide +kernel
theorem dX8_questionNumber_2 : decode cX8_questionNumber 2 = .ok (.getfield 47, 3) := by decide +kernel
theorem dX8_questionNumber_5 : decode cX8_questionNumber 5 = .ok (.arraylength, 1) := by decide +kernel
theorem dX8_questionNumber_6 : decode cX8_questionNumber 6 = .ok (.invokestatic 72, 3) := by decide +kernel
theorem dX8_questionNumber_9 : decode cX8_questionNumber 9 = .ok (.ifCond .eq 12, 3) := by decide +kernel
theorem dX8_questionNumber_12 : decode cX8_questionNumber 12 = .ok (.aload_n 0, 1) := by decide +kernel
theorem dX8_questionNumber_13 : decode cX8_questionNumber 13 = .ok (.getfield 47, 3) := by decide +kernel
theorem dX8_questionNumber_16 : decode cX8_questionNumber 16 = .ok (.iload_n 1, 1) := by decide +kernel
theorem dX8_questionNumber_17 : decode cX8_questionNumber 17 = .ok (.aaload, 1) := by decide +kernel
theorem dX8_questionNumber_18 : decode cX8_questionNumber 18 = .ok (.goto 4, 3) := by decide +kernel
theorem dX8_questionNumber_21 : decode cX8_questionNumber 21 = .ok (.aconst_null, 1) := by decide +kernel
theorem dX8_questionNumber_22 : decode cX8_questionNumber 22 = .ok (.areturn, 1) := by decide +kernel
set_option maxRecDepth 20000 in
theorem ggX8_questionOn_X8_questionNumber : GoodIn wsX8_questionOn wsX8_questionNumber := goodIn_r _ [10, 2, 11, 12, 9, 13, 27, 28, 29, 30, 31, 32, 33, 34, 35, 36, 37, 38] (by decide +kernel) (by decide +kernel)
set_option maxRecDepth 20000 in
theorem gX8_questionOn_X8_questionNumber : GoodIn wsX8_questionOn (wsV RX8 190 RX8 yX8_questionNumber wsX8_questionNumber) := goodIn_app (goodIn_of _ (by decide +kernel)) ggX8_questionOn_X8_questionNumber
set_option maxRecDepth 20000 in
theorem ggX8_questionOn_X3_isOn : GoodIn wsX8_questionOn wsX3_isOn := goodIn_r _ [17, 18, 19, 39, 40, 41, 42, 43] (by decide +kernel) (by decide +kernel)
set_option maxRecDepth 20000 in
theorem gX8_questionOn_X3_isOn : GoodIn wsX8_questionOn (wsV RX8 258 RX3 yX3_isOn wsX3_isOn) := goodIn_app (goodIn_of _ (by decide +kernel)) ggX8_questionOn_X3_isOn
set_option maxRecDepth 20000 in
theorem ggX8_questionOn_X3_init : GoodIn wsX8_questionOn wsX3_init := goodIn_r _ [22, 23, 24, 25, 26, 18, 19, 39, 40, 41, 42, 43] (by decide +kernel) (by decide +kernel)
set_option maxRecDepth 20000 in
theorem gX8_questionOn_X3_init : GoodIn wsX8_questionOn (wsX3_init) := ggX8_questionOn_X3_init
theorem dX8_questionOn_0 : decode cX8_questionOn 0 = .ok (.iconst 0, 1) := by decide +kernel
theorem dX8_questionOn_1 : decode cX8_questionOn 1 = .ok (.istore_n 3, 1) := by decide +kernel
theorem dX8_questionOn_2 : decode cX8_questionOn 2 = .ok (.iload_n 3, 1) := by decide +kernel
theorem dX8_questionOn_3 : decode cX8_questionOn 3 = .ok (.aload_n 0, 1) := by decide +kernel
theorem dX8_questionOn_4 : decode cX8_questionOn 4 = .ok (.getfield 233, 3) := by decide +kernel
theorem dX8_questionOn_7 : decode cX8_questionOn 7 = .ok (.if_icmp .ge 33, 3) := by decide +kernel
theorem dX8_questionOn_10 : decode cX8_questionOn 10 = .ok (.aload_n 0, 1) := by decide +kernel
theorem dX8_questionOn_11 : decode cX8_questionOn 11 = .ok (.iload_n 3, 1) := by decide +kernel
theorem dX8_questionOn_12 : decode cX8_questionOn 12 = .ok (.invokevirtual 190, 3) := by decide +kernel
theorem dX8_questionOn_15 : decode cX8_questionOn 15 = .ok (.astore 4, 2) := by decide +kernel
theorem dX8_questionOn_17 : decode cX8_questionOn 17 = .ok (.aload 4, 2) := by decide +kernel
theorem dX8_questionOn_19 : decode cX8_questionOn 19 = .ok (.ifnull 15, 3) := by decide +kernel
theorem dX8_questionOn_22 : decode cX8_questionOn 22 = .ok (.aload 4, 2) := by decide +kernel
theorem dX8_questionOn_24 : decode cX8_questionOn 24 = .ok (.iload_n 1, 1) := by decide +kernel
theorem dX8_questionOn_25 : decode cX8_questionOn 25 = .ok (.iload_n 2, 1) := by decide +kernel
theorem dX8_questionOn_26 : decode cX8_questionOn 26 = .ok (.invokevirtual 258, 3) := by decide +kernel
theorem dX8_questionOn_29 : decode cX8_questionOn 29 = .ok (.ifCond .eq 5, 3) := by decide +kernel
theorem dX8_questionOn_32 : decode cX8_questionOn 32 = .ok (.iload_n 3, 1) := by decide +kernel
theorem dX8_questionOn_33 : decode cX8_questionOn 33 = .ok (.ireturn, 1) := by decide +kernel
theorem dX8_questionOn_34 : decode cX8_questionOn 34 = .ok (.iinc 3 1, 3) := by decide +kernel
theorem dX8_questionOn_37 : decode cX8_questionOn 37 = .ok (.goto (-35), 3) := by decide +kernel
theorem dX8_questionOn_40 : decode cX8_questionOn 40 = .ok (.aload_n 0, 1) := by decide +kernel
theorem dX8_questionOn_41 : decode cX8_questionOn 41 = .ok (.getfield 233, 3) := by decide +kernel
theorem dX8_questionOn_44 : decode cX8_questionOn 44 = .ok (.aload_n 0, 1) := by decide +kernel
theorem dX8_questionOn_45 : decode cX8_questionOn 45 = .ok (.getfield 47, 3) := by decide +kernel
theorem dX8_questionOn_48 : decode cX8_questionOn 48 = .ok (.arraylength, 1) := by decide +kernel
theorem dX8_questionOn_49 : decode cX8_questionOn 49 = .ok (.if_icmp .lt 6, 3) := by decide +kernel
theorem dX8_questionOn_52 : decode cX8_questionOn 52 = .ok (.bipush (-9), 2) := by decide +kernel
theorem dX8_questionOn_54 : decode cX8_questionOn 54 = .ok (.ireturn, 1) := by decide +kernel
theorem dX8_questionOn_55 : decode cX8_questionOn 55 = .ok (.aload_n 0, 1) := by decide +kernel
theorem dX8_questionOn_56 : decode cX8_questionOn 56 = .ok (.getfield 47, 3) := by decide +kernel
theorem dX8_questionOn_59 : decode cX8_questionOn 59 = .ok (.aload_n 0, 1) := by decide +kernel
theorem dX8_questionOn_60 : decode cX8_questionOn 60 = .ok (.getfield 233, 3) := by decide +kernel
theorem dX8_questionOn_63 : decode cX8_questionOn 63 = .ok (.new 45, 3) := by decide +kernel
theorem dX8_questionOn_66 : decode cX8_questionOn 66 = .ok (.dup, 1) := by decide +kernel
theorem dX8_questionOn_67 : decode cX8_questionOn 67 = .ok (.iload_n 1, 1) := by decide +kernel
theorem dX8_questionOn_68 : decode cX8_questionOn 68 = .ok (.iload_n 2, 1) := by decide +kernel
theorem dX8_questionOn_69 : decode cX8_questionOn 69 = .ok (.invokespecial 261, 3) := by decide +kernel
theorem dX8_questionOn_72 : decode cX8_questionOn 72 = .ok (.aastore, 1) := by decide +kernel
theorem dX8_questionOn_73 : decode cX8_questionOn 73 = .ok (.aload_n 0, 1) := by decide +kernel
theorem dX8_questionOn_74 : decode cX8_questionOn 74 = .ok (.dup, 1) := by decide +kernel
theorem dX8_questionOn_75 : decode cX8_questionOn 75 = .ok (.getfield 233, 3) := by decide +kernel
theorem dX8_questionOn_78 : decode cX8_questionOn 78 = .ok (.iconst 1, 1) := by decide +kernel
theorem dX8_questionOn_79 : decode cX8_questionOn 79 = .ok (.iadd, 1) := by decide +kernel
theorem dX8_questionOn_80 : decode cX8_questionOn 80 = .ok (.putfield 233, 3) := by decide +kernel
theorem dX8_questionOn_83 : decode cX8_questionOn 83 = .ok (.aload_n 0, 1) := by decide +kernel
theorem dX8_questionOn_84 : decode cX8_questionOn 84 = .ok (.getfield 233, 3) := by decide +kernel
theorem dX8_questionOn_87 : decode cX8_questionOn 87 = .ok (.iconst 1, 1) := by decide +kernel
theorem dX8_questionOn_88 : decode cX8_questionOn 88 = .ok (.isub, 1) := by decide +kernel
theorem dX8_questionOn_89 : decode cX8_questionOn 89 = .ok (.ireturn, 1) := by decide +kernel
theorem dX9_init_0 : decode cX9_init 0 = .ok (.aload_n 0, 1) := by decide +kernel
theorem dX9_init_1 : decode cX9_init 1 = .ok (.invokespecial 1, 3) := by decide +kernel
theorem dX9_init_4 : decode cX9_init 4 = .ok (.aload_n 0, 1) := by decide +kernel
theorem dX9_init_5 : decode cX9_init 5 = .ok (.bipush 40, 2) := by decide +kernel
theorem dX9_init_7 : decode cX9_init 7 = .ok (.newarray .int, 2) := by decide +kernel
theorem dX9_init_9 : decode cX9_init 9 = .ok (.putfield 7, 3) := by decide +kernel
theorem dX9_init_12 : decode cX9_init 12 = .ok (.aload_n 0, 1) := by decide +kernel
theorem dX9_init_13 : decode cX9_init 13 = .ok (.bipush 12, 2) := by decide +kernel
theorem dX9_init_15 : decode cX9_init 15 = .ok (.newarray .int, 2) := by decide +kernel
theorem dX9_init_17 : decode cX9_init 17 = .ok (.putfield 13, 3) := by decide +kernel
theorem dX9_init_20 : decode cX9_init 20 = .ok (.aload_n 0, 1) := by decide +kernel
theorem dX9_init_21 : decode cX9_init 21 = .ok (.bipush 12, 2) := by decide +kernel
theorem dX9_init_23 : decode cX9_init 23 = .ok (.newarray .int, 2) := by decide +kernel
theorem dX9_init_25 : decode cX9_init 25 = .ok (.putfield 16, 3) := by decide +kernel
theorem dX9_init_28 : decode cX9_init 28 = .ok (.aload_n 0, 1) := by decide +kernel
theorem dX9_init_29 : decode cX9_init 29 = .ok (.bipush 8, 2) := by decide +kernel
theorem dX9_init_31 : decode cX9_init 31 = .ok (.newarray .int, 2) := by decide +kernel
theorem dX9_init_33 : decode cX9_init 33 = .ok (.putfield 19, 3) := by decide +kernel
theorem dX9_init_36 : decode cX9_init 36 = .ok (.aload_n 0, 1) := by decide +kernel
theorem dX9_init_37 : decode cX9_init 37 = .ok (.bipush 8, 2) := by decide +kernel
theorem dX9_init_39 : decode cX9_init 39 = .ok (.newarray .int, 2) := by decide +kernel
theorem dX9_init_41 : decode cX9_init 41 = .ok (.putfield 22, 3) := by decide +kernel
theorem dX9_init_44 : decode cX9_init 44 = .ok (.aload_n 0, 1) := by decide +kernel
theorem dX9_init_45 : decode cX9_init 45 = .ok (.bipush 8, 2) := by decide +kernel
theorem dX9_init_47 : decode cX9_init 47 = .ok (.newarray .int, 2) := by decide +kernel
theorem dX9_init_49 : decode cX9_init 49 = .ok (.putfield 25, 3) := by decide +kernel
theorem dX9_init_52 : decode cX9_init 52 = .ok (.aload_n 0, 1) := by decide +kernel
theorem dX9_init_53 : decode cX9_init 53 = .ok (.bipush 8, 2) := by decide +kernel
theorem dX9_init_55 : decode cX9_init 55 = .ok (.newarray .boolean, 2) := by decide +kernel
theorem dX9_init_57 : decode cX9_init 57 = .ok (.putfield 28, 3) := by decide +kernel
theorem dX9_init_60 : decode cX9_init 60 = .ok (.aload_n 0, 1) := by decide +kernel
theorem dX9_init_61 : decode cX9_init 61 = .ok (.bipush 8, 2) := by decide +kernel
theorem dX9_init_63 : decode cX9_init 63 = .ok (.newarray .int, 2) := by decide +kernel
theorem dX9_init_65 : decode cX9_init 65 = .ok (.putfield 32, 3) := by decide +kernel
theorem dX9_init_68 : decode cX9_init 68 = .ok (.aload_n 0, 1) := by decide +kernel
theorem dX9_init_69 : decode cX9_init 69 = .ok (.bipush 32, 2) := by decide +kernel
theorem dX9_init_71 : decode cX9_init 71 = .ok (.newarray .int, 2) := by decide +kernel
theorem dX9_init_73 : decode cX9_init 73 = .ok (.putfield 35, 3) := by decide +kernel
theorem dX9_init_76 : decode cX9_init 76 = .ok (.aload_n 0, 1) := by decide +kernel
theorem dX9_init_77 : decode cX9_init 77 = .ok (.sipush 1280, 3) := by decide +kernel
theorem dX9_init_80 : decode cX9_init 80 = .ok (.newarray .int, 2) := by decide +kernel
theorem dX9_init_82 : decode cX9_init 82 = .ok (.putfield 38, 3) := by decide +kernel
theorem dX9_init_85 : decode cX9_init 85 = .ok (.aload_n 0, 1) := by decide +kernel
theorem dX9_init_86 : decode cX9_init 86 = .ok (.sipush 1280, 3) := by decide +kernel
theorem dX9_init_89 : decode cX9_init 89 = .ok (.newarray .boolean, 2) := by decide +kernel
theorem dX9_init_91 : decode cX9_init 91 = .ok (.putfield 41, 3) := by decide +kernel
theorem dX9_init_94 : decode cX9_init 94 = .ok (.aload_n 0, 1) := by decide +kernel
theorem dX9_init_95 : decode cX9_init 95 = .ok (.bipush 6, 2) := by decide +kernel
theorem dX9_init_97 : decode cX9_init 97 = .ok (.newarray .int, 2) := by decide +kernel
theorem dX9_init_99 : decode cX9_init 99 = .ok (.putfield 44, 3) := by decide +kernel
theorem dX9_init_102 : decode cX9_init 102 = .ok (.aload_n 0, 1) := by decide +kernel
theorem dX9_init_103 : decode cX9_init 103 = .ok (.sipush 480, 3) := by decide +kernel
theorem dX9_init_106 : decode cX9_init 106 = .ok (.newarray .int, 2) := by decide +kernel
theorem dX9_init_108 : decode cX9_init 108 = .ok (.putfield 47, 3) := by decide +kernel
theorem dX9_init_111 : decode cX9_init 111 = .ok (.aload_n 0, 1) := by decide +kernel
theorem dX9_init_112 : decode cX9_init 112 = .ok (.sipush 200, 3) := by decide +kernel
theorem dX9_init_115 : decode cX9_init 115 = .ok (.newarray .int, 2) := by decide +kernel
theorem dX9_init_117 : decode cX9_init 117 = .ok (.putfield 50, 3) := by decide +kernel
theorem dX9_init_120 : decode cX9_init 120 = .ok (.aload_n 0, 1) := by decide +kernel
theorem dX9_init_121 : decode cX9_init 121 = .ok (.sipush 200, 3) := by decide +kernel
theorem dX9_init_124 : decode cX9_init 124 = .ok (.newarray .int, 2) := by decide +kernel
theorem dX9_init_126 : decode cX9_init 126 = .ok (.putfield 53, 3) := by decide +kernel
theorem dX9_init_129 : decode cX9_init 129 = .ok (.aload_n 0, 1) := by decide +kernel
theorem dX9_init_130 : decode cX9_init 130 = .ok (.sipush 200, 3) := by decide +kernel
theorem dX9_init_133 : decode cX9_init 133 = .ok (.newarray .int, 2) := by decide +kernel
theorem dX9_init_135 : decode cX9_init 135 = .ok (.putfield 56, 3) := by decide +kernel
theorem dX9_init_138 : decode cX9_init 138 = .ok (.aload_n 0, 1) := by decide +kernel
theorem dX9_init_139 : decode cX9_init 139 = .ok (.sipush 200, 3) := by decide +kernel
theorem dX9_init_142 : decode cX9_init 142 = .ok (.newarray .int, 2) := by decide +kernel
theorem dX9_init_144 : decode cX9_init 144 = .ok (.putfield 59, 3) := by decide +kernel
theorem dX9_init_147 : decode cX9_init 147 = .ok (.aload_n 0, 1) := by decide +kernel
theorem dX9_init_148 : decode cX9_init 148 = .ok (.bipush 30, 2) := by decide +kernel
theorem dX9_init_150 : decode cX9_init 150 = .ok (.newarray .int, 2) := by decide +kernel
theorem dX9_init_152 : decode cX9_init 152 = .ok (.putfield 62, 3) := by decide +kernel
theorem dX9_init_155 : decode cX9_init 155 = .ok (.aload_n 0, 1) := by decide +kernel
theorem dX9_init_156 : decode cX9_init 156 = .ok (.bipush 30, 2) := by decide +kernel
theorem dX9_init_158 : decode cX9_init 158 = .ok (.newarray .int, 2) := by decide +kernel
theorem dX9_init_160 : decode cX9_init 160 = .ok (.putfield 65, 3) := by decide +kernel
theorem dX9_init_163 : decode cX9_init 163 = .ok (.aload_n 0, 1) := by decide +kernel
theorem dX9_init_164 : decode cX9_init 164 = .ok (.bipush 30, 2) := by decide +kernel
theorem dX9_init_166 : decode cX9_init 166 = .ok (.newarray .int, 2) := by decide +kernel
theorem dX9_init_168 : decode cX9_init 168 = .ok (.putfield 68, 3) := by decide +kernel
theorem dX9_init_171 : decode cX9_init 171 = .ok (.aload_n 0, 1) := by decide +kernel
theorem dX9_init_172 : decode cX9_init 172 = .ok (.bipush 30, 2) := by decide +kernel
theorem dX9_init_174 : decode cX9_init 174 = .ok (.newarray .int, 2) := by decide +kernel
theorem dX9_init_176 : decode cX9_init 176 = .ok (.putfield 71, 3) := by decide +kernel
theorem dX9_init_179 : decode cX9_init 179 = .ok (.aload_n 0, 1) := by decide +kernel
theorem dX9_init_180 : decode cX9_init 180 = .ok (.bipush 30, 2) := by decide +kernel
theorem dX9_init_182 : decode cX9_init 182 = .ok (.newarray .int, 2) := by decide +kernel
theorem dX9_init_184 : decode cX9_init 184 = .ok (.putfield 74, 3) := by decide +kernel
theorem dX9_init_187 : decode cX9_init 187 = .ok (.aload_n 0, 1) := by decide +kernel
theorem dX9_init_188 : decode cX9_init 188 = .ok (.bipush 6, 2) := by decide +kernel
theorem dX9_init_190 : decode cX9_init 190 = .ok (.newarray .int, 2) := by decide +kernel
theorem dX9_init_192 : decode cX9_init 192 = .ok (.dup, 1) := by decide +kernel
theorem dX9_init_193 : decode cX9_init 193 = .ok (.iconst 0, 1) := by decide +kernel
theorem dX9_init_194 : decode cX9_init 194 = .ok (.iconst (-1), 1) := by decide +kernel
theorem dX9_init_195 : decode cX9_init 195 = .ok (.iastore, 1) := by decide +kernel
theorem dX9_init_196 : decode cX9_init 196 = .ok (.dup, 1) := by decide +kernel
theorem dX9_init_197 : decode cX9_init 197 = .ok (.iconst 1, 1) := by decide +kernel
theorem dX9_init_198 : decode cX9_init 198 = .ok (.iconst (-1), 1) := by decide +kernel
theorem dX9_init_199 : decode cX9_init 199 = .ok (.iastore, 1) := by decide +kernel
theorem dX9_init_200 : decode cX9_init 200 = .ok (.dup, 1) := by decide +kernel
theorem dX9_init_201 : decode cX9_init 201 = .ok (.iconst 2, 1) := by decide +kernel
theorem dX9_init_202 : decode cX9_init 202 = .ok (.iconst (-1), 1) := by decide +kernel
theorem dX9_init_203 : decode cX9_init 203 = .ok (.iastore, 1) := by decide +kernel
theorem dX9_init_204 : decode cX9_init 204 = .ok (.dup, 1) := by decide +kernel
theorem dX9_init_205 : decode cX9_init 205 = .ok (.iconst 3, 1) := by decide +kernel
theorem dX9_init_206 : decode cX9_init 206 = .ok (.iconst (-1), 1) := by decide +kernel
theorem dX9_init_207 : decode cX9_init 207 = .ok (.iastore, 1) := by decide +kernel
theorem dX9_init_208 : decode cX9_init 208 = .ok (.dup, 1) := by decide +kernel
theorem dX9_init_209 : decode cX9_init 209 = .ok (.iconst 4, 1) := by decide +kernel
theorem dX9_init_210 : decode cX9_init 210 = .ok (.iconst (-1), 1) := by decide +kernel
theorem dX9_init_211 : decode cX9_init 211 = .ok (.iastore, 1) := by decide +kernel
theorem dX9_init_212 : decode cX9_init 212 = .ok (.dup, 1) := by decide +kernel
theorem dX9_init_213 : decode cX9_init 213 = .ok (.iconst 5, 1) := by decide +kernel
theorem dX9_init_214 : decode cX9_init 214 = .ok (.iconst (-1), 1) := by decide +kernel
theorem dX9_init_215 : decode cX9_init 215 = .ok (.iastore, 1) := by decide +kernel
theorem dX9_init_216 : decode cX9_init 216 = .ok (.putfield 77, 3) := by decide +kernel
theorem dX9_init_219 : decode cX9_init 219 = .ok (.aload_n 0, 1) := by decide +kernel
theorem dX9_init_220 : decode cX9_init 220 = .ok (.bipush 6, 2) := by decide +kernel
theorem dX9_init_222 : decode cX9_init 222 = .ok (.newarray .int, 2) := by decide +kernel
theorem dX9_init_224 : decode cX9_init 224 = .ok (.putfield 80, 3) := by decide +kernel
theorem dX9_init_227 : decode cX9_init 227 = .ok (.aload_n 0, 1) := by decide +kernel
theorem dX9_init_228 : decode cX9_init 228 = .ok (.bipush 80, 2) := by decide +kernel
theorem dX9_init_230 : decode cX9_init 230 = .ok (.newarray .int, 2) := by decide +kernel
theorem dX9_init_232 : decode cX9_init 232 = .ok (.putfield 83, 3) := by decide +kernel
theorem dX9_init_235 : decode cX9_init 235 = .ok (.aload_n 0, 1) := by decide +kernel
theorem dX9_init_236 : decode cX9_init 236 = .ok (.iconst 0, 1) := by decide +kernel
theorem dX9_init_237 : decode cX9_init 237 = .ok (.putfield 86, 3) := by decide +kernel
theorem dX9_init_240 : decode cX9_init 240 = .ok (.return_, 1) := by decide +kernel
theorem dX9_in_0 : decode cX9_in 0 = .ok (.iload_n 0, 1) := by decide +kernel
theorem dX9_in_1 : decode cX9_in 1 = .ok (.iload_n 1, 1) := by decide +kernel
theorem dX9_in_2 : decode cX9_in 2 = .ok (.if_icmp .lt 12, 3) := by decide +kernel
theorem dX9_in_5 : decode cX9_in 5 = .ok (.iload_n 0, 1) := by decide +kernel
theorem dX9_in_6 : decode cX9_in 6 = .ok (.iload_n 2, 1) := by decide +kernel
theorem dX9_in_7 : decode cX9_in 7 = .ok (.if_icmp .gt 7, 3) := by decide +kernel
theorem dX9_in_10 : decode cX9_in 10 = .ok (.iconst 1, 1) := by decide +kernel
theorem dX9_in_11 : decode cX9_in 11 = .ok (.goto 4, 3) := by decide +kernel
theorem dX9_in_14 : decode cX9_in 14 = .ok (.iconst 0, 1) := by decide +kernel
theorem dX9_in_15 : decode cX9_in 15 = .ok (.ireturn, 1) := by decide +kernel
set_option maxRecDepth 20000 in
theorem ggX9_isPaper_X9_in : GoodIn wsX9_isPaper wsX9_in := goodIn_r _ [5] (by decide +kernel) (by decide +kernel)
set_option maxRecDepth 20000 in
theorem gX9_isPaper_X9_in : GoodIn wsX9_isPaper (va_wsS RX9 93 yX9_in wsX9_in) := goodIn_app (goodIn_of _ (by decide +kernel)) ggX9_isPaper_X9_in
theorem dX9_isPaper_0 : decode cX9_isPaper 0 = .ok (.iload_n 1, 1) := by decide +kernel
theorem dX9_isPaper_1 : decode cX9_isPaper 1 = .ok (.iconst 0, 1) := by decide +kernel
theorem dX9_isPaper_2 : decode cX9_isPaper 2 = .ok (.aload_n 0, 1) := by decide +kernel
theorem dX9_isPaper_3 : decode cX9_isPaper 3 = .ok (.getfield 90, 3) := by decide +kernel
theorem dX9_isPaper_6 : decode cX9_isPaper 6 = .ok (.iconst 1, 1) := by decide +kernel
theorem dX9_isPaper_7 : decode cX9_isPaper 7 = .ok (.isub, 1) := by decide +kernel
theorem dX9_isPaper_8 : decode cX9_isPaper 8 = .ok (.invokestatic 93, 3) := by decide +kernel
theorem dX9_isPaper_11 : decode cX9_isPaper 11 = .ok (.ireturn, 1) := by decide +kernel
set_option maxRecDepth 20000 in
theorem ggX9_isVersion_X9_isPaper : GoodIn wsX9_isVersion wsX9_isPaper := goodIn_r _ [6, 7, 8, 9, 5, 10, 11, 12, 13, 14, 15, 16, 17, 18, 19, 20, 21, 22, 23, 24, 25, 26, 27, 28, 29, 30, 31, 32, 33, 34, 35, 36, 37, 38, 39, 40, 41, 42, 43] (by decide +kernel) (by decide +kernel)
set_option maxRecDepth 20000 in
theorem gX9_isVersion_X9_isPaper : GoodIn wsX9_isVersion (wsV RX9 97 RX9 yX9_isPaper wsX9_isPaper) := goodIn_app (goodIn_of _ (by decide +kernel)) ggX9_isVersion_X9_isPaper
set_option maxRecDepth 20000 in
theorem ggX9_isVersion_X9_in : GoodIn wsX9_isVersion wsX9_in := goodIn_r _ [10] (by decide +kernel) (by decide +kernel)
set_option maxRecDepth 20000 in
theorem gX9_isVersion_X9_in : GoodIn wsX9_isVersion (va_wsS RX9 93 yX9_in wsX9_in) := goodIn_app (goodIn_of _ (by decide +kernel)) ggX9_isVersion_X9_in
theorem dX9_isVersion_0 : decode cX9_isVersion 0 = .ok (.aload_n 0, 1) := by decide +kernel
theorem dX9_isVersion_1 : decode cX9_isVersion 1 = .ok (.iload_n 1, 1) := by decide +kernel
theorem dX9_isVersion_2 : decode cX9_isVersion 2 = .ok (.invokevirtual 97, 3) := by decide +kernel
theorem dX9_isVersion_5 : decode cX9_isVersion 5 = .ok (.ifCond .eq 23, 3) := by decide +kernel
theorem dX9_isVersion_8 : decode cX9_isVersion 8 = .ok (.iload_n 2, 1) := by decide +kernel
theorem dX9_isVersion_9 : decode cX9_isVersion 9 = .ok (.iconst 0, 1) := by decide +kernel
theorem dX9_isVersion_10 : decode cX9_isVersion 10 = .ok (.aload_n 0, 1) := by decide +kernel
theorem dX9_isVersion_11 : decode cX9_isVersion 11 = .ok (.getfield 32, 3) := by decide +kernel
theorem dX9_isVersion_14 : decode cX9_isVersion 14 = .ok (.iload_n 1, 1) := by decide +kernel
theorem dX9_isVersion_15 : decode cX9_isVersion 15 = .ok (.iaload, 1) := by decide +kernel
theorem dX9_isVersion_16 : decode cX9_isVersion 16 = .ok (.iconst 1, 1) := by decide +kernel
theorem dX9_isVersion_17 : decode cX9_isVersion 17 = .ok (.isub, 1) := by decide +kernel
theorem dX9_isVersion_18 : decode cX9_isVersion 18 = .ok (.invokestatic 93, 3) := by decide +kernel
theorem dX9_isVersion_21 : decode cX9_isVersion 21 = .ok (.ifCond .eq 7, 3) := by decide +kernel
theorem dX9_isVersion_24 : decode cX9_isVersion 24 = .ok (.iconst 1, 1) := by decide +kernel
theorem dX9_isVersion_25 : decode cX9_isVersion 25 = .ok (.goto 4, 3) := by decide +kernel
theorem dX9_isVersion_28 : decode cX9_isVersion 28 = .ok (.iconst 0, 1) := by decide +kernel
theorem dX9_isVersion_29 : decode cX9_isVersion 29 = .ok (.ireturn, 1) := by decide +kernel
set_option maxRecDepth 20000 in
theorem ggX9_isBidder_X9_in : GoodIn wsX9_isBidder wsX9_in := goodIn_r _ [4] (by decide +kernel) (by decide +kernel)
set_option maxRecDepth 20000 in
theorem gX9_isBidder_X9_in : GoodIn wsX9_isBidder (va_wsS RX9 93 yX9_in wsX9_in) := goodIn_app (goodIn_of _ (by decide +kernel)) ggX9_isBidder_X9_in
theorem dX9_isBidder_0 : decode cX9_isBidder 0 = .ok (.iload_n 0, 1) := by decide +kernel
theorem dX9_isBidder_1 : decode cX9_isBidder 1 = .ok (.iconst 0, 1) := by decide +kernel
theorem dX9_isBidder_2 : decode cX9_isBidder 2 = .ok (.iconst 5, 1) := by decide +kernel
theorem dX9_isBidder_3 : decode cX9_isBidder 3 = .ok (.invokestatic 93, 3) := by decide +kernel
theorem dX9_isBidder_6 : decode cX9_isBidder 6 = .ok (.ireturn, 1) := by decide +kernel
set_option maxRecDepth 20000 in
theorem ggX9_type_X9_in : GoodIn wsX9_type wsX9_in := goodIn_r _ [6] (by decide +kernel) (by decide +kernel)
set_option maxRecDepth 20000 in
theorem gX9_type_X9_in : GoodIn wsX9_type (va_wsS RX9 93 yX9_in wsX9_in) := goodIn_app (goodIn_of _ (by decide +kernel)) ggX9_type_X9_in
theorem dX9_type_0 : decode cX9_type 0 = .ok (.iload_n 3, 1) := by decide +kernel
theorem dX9_type_1 : decode cX9_type 1 = .ok (.iconst 1, 1) := by decide +kernel
theorem dX9_type_2 : decode cX9_type 2 = .ok (.bipush 8, 2) := by decide +kernel
theorem dX9_type_4 : decode cX9_type 4 = .ok (.invokestatic 93, 3) := by decide +kernel
theorem dX9_type_7 : decode cX9_type 7 = .ok (.ifCond .ne 5, 3) := by decide +kernel
theorem dX9_type_10 : decode cX9_type 10 = .ok (.iconst (-1), 1) := by decide +kernel
theorem dX9_type_11 : decode cX9_type 11 = .ok (.ireturn, 1) := by decide +kernel
theorem dX9_type_12 : decode cX9_type 12 = .ok (.iconst 0, 1) := by decide +kernel
theorem dX9_type_13 : decode cX9_type 13 = .ok (.istore 4, 2) := by decide +kernel
theorem dX9_type_15 : decode cX9_type 15 = .ok (.iload 4, 2) := by decide +kernel
theorem dX9_type_17 : decode cX9_type 17 = .ok (.iload_n 3, 1) := by decide +kernel
theorem dX9_type_18 : decode cX9_type 18 = .ok (.if_icmp .ge 33, 3) := by decide +kernel
theorem dX9_type_21 : decode cX9_type 21 = .ok (.lload_n 1, 1) := by decide +kernel
theorem dX9_type_22 : decode cX9_type 22 = .ok (.bipush 8, 2) := by decide +kernel
theorem dX9_type_24 : decode cX9_type 24 = .ok (.iload 4, 2) := by decide +kernel
theorem dX9_type_26 : decode cX9_type 26 = .ok (.imul, 1) := by decide +kernel
theorem dX9_type_27 : decode cX9_type 27 = .ok (.lshr, 1) := by decide +kernel
theorem dX9_type_28 : decode cX9_type 28 = .ok (.l2i, 1) := by decide +kernel
theorem dX9_type_29 : decode cX9_type 29 = .ok (.sipush 255, 3) := by decide +kernel
theorem dX9_type_32 : decode cX9_type 32 = .ok (.iand, 1) := by decide +kernel
theorem dX9_type_33 : decode cX9_type 33 = .ok (.bipush 32, 2) := by decide +kernel
theorem dX9_type_35 : decode cX9_type 35 = .ok (.bipush 126, 2) := by decide +kernel
theorem dX9_type_37 : decode cX9_type 37 = .ok (.invokestatic 93, 3) := by decide +kernel
theorem dX9_type_40 : decode cX9_type 40 = .ok (.ifCond .ne 5, 3) := by decide +kernel
theorem dX9_type_43 : decode cX9_type 43 = .ok (.iconst (-1), 1) := by decide +kernel
theorem dX9_type_44 : decode cX9_type 44 = .ok (.ireturn, 1) := by decide +kernel
theorem dX9_type_45 : decode cX9_type 45 = .ok (.iinc 4 1, 3) := by decide +kernel
theorem dX9_type_48 : decode cX9_type 48 = .ok (.goto (-33), 3) := by decide +kernel
theorem dX9_type_51 : decode cX9_type 51 = .ok (.aload_n 0, 1) := by decide +kernel
theorem dX9_type_52 : decode cX9_type 52 = .ok (.getfield 101, 3) := by decide +kernel
theorem dX9_type_55 : decode cX9_type 55 = .ok (.iload_n 3, 1) := by decide +kernel
theorem dX9_type_56 : decode cX9_type 56 = .ok (.iadd, 1) := by decide +kernel
theorem dX9_type_57 : decode cX9_type 57 = .ok (.bipush 40, 2) := by decide +kernel
theorem dX9_type_59 : decode cX9_type 59 = .ok (.if_icmp .le 6, 3) := by decide +kernel
theorem dX9_type_62 : decode cX9_type 62 = .ok (.bipush (-3), 2) := by decide +kernel
theorem dX9_type_64 : decode cX9_type 64 = .ok (.ireturn, 1) := by decide +kernel
theorem dX9_type_65 : decode cX9_type 65 = .ok (.iload_n 3, 1) := by decide +kernel
theorem dX9_type_66 : decode cX9_type 66 = .ok (.iconst 1, 1) := by decide +kernel
theorem dX9_type_67 : decode cX9_type 67 = .ok (.isub, 1) := by decide +kernel
theorem dX9_type_68 : decode cX9_type 68 = .ok (.istore 4, 2) := by decide +kernel
theorem dX9_type_70 : decode cX9_type 70 = .ok (.iload 4, 2) := by decide +kernel
theorem dX9_type_72 : decode cX9_type 72 = .ok (.ifCond .lt 40, 3) := by decide +kernel
theorem dX9_type_75 : decode cX9_type 75 = .ok (.aload_n 0, 1) := by decide +kernel
theorem dX9_type_76 : decode cX9_type 76 = .ok (.getfield 7, 3) := by decide +kernel
theorem dX9_type_79 : decode cX9_type 79 = .ok (.aload_n 0, 1) := by decide +kernel
theorem dX9_type_80 : decode cX9_type 80 = .ok (.getfield 101, 3) := by decide +kernel
theorem dX9_type_83 : decode cX9_type 83 = .ok (.lload_n 1, 1) := by decide +kernel
theorem dX9_type_84 : decode cX9_type 84 = .ok (.bipush 8, 2) := by decide +kernel
theorem dX9_type_86 : decode cX9_type 86 = .ok (.iload 4, 2) := by decide +kernel
theorem dX9_type_88 : decode cX9_type 88 = .ok (.imul, 1) := by decide +kernel
theorem dX9_type_89 : decode cX9_type 89 = .ok (.lshr, 1) := by decide +kernel
theorem dX9_type_90 : decode cX9_type 90 = .ok (.l2i, 1) := by decide +kernel
theorem dX9_type_91 : decode cX9_type 91 = .ok (.sipush 255, 3) := by decide +kernel
theorem dX9_type_94 : decode cX9_type 94 = .ok (.iand, 1) := by decide +kernel
theorem dX9_type_95 : decode cX9_type 95 = .ok (.iastore, 1) := by decide +kernel
theorem dX9_type_96 : decode cX9_type 96 = .ok (.aload_n 0, 1) := by decide +kernel
theorem dX9_type_97 : decode cX9_type 97 = .ok (.dup, 1) := by decide +kernel
theorem dX9_type_98 : decode cX9_type 98 = .ok (.getfield 101, 3) := by decide +kernel
theorem dX9_type_101 : decode cX9_type 101 = .ok (.iconst 1, 1) := by decide +kernel
theorem dX9_type_102 : decode cX9_type 102 = .ok (.iadd, 1) := by decide +kernel
theorem dX9_type_103 : decode cX9_type 103 = .ok (.putfield 101, 3) := by decide +kernel
theorem dX9_type_106 : decode cX9_type 106 = .ok (.iinc 4 (-1), 3) := by decide +kernel
theorem dX9_type_109 : decode cX9_type 109 = .ok (.goto (-39), 3) := by decide +kernel
theorem dX9_type_112 : decode cX9_type 112 = .ok (.aload_n 0, 1) := by decide +kernel
theorem dX9_type_113 : decode cX9_type 113 = .ok (.getfield 101, 3) := by decide +kernel
theorem dX9_type_116 : decode cX9_type 116 = .ok (.ireturn, 1) := by decide +kernel
theorem dX9_clear_0 : decode cX9_clear 0 = .ok (.aload_n 0, 1) := by decide +kernel
theorem dX9_clear_1 : decode cX9_clear 1 = .ok (.getfield 101, 3) := by decide +kernel
theorem dX9_clear_4 : decode cX9_clear 4 = .ok (.istore_n 1, 1) := by decide +kernel
theorem dX9_clear_5 : decode cX9_clear 5 = .ok (.aload_n 0, 1) := by decide +kernel
theorem dX9_clear_6 : decode cX9_clear 6 = .ok (.iconst 0, 1) := by decide +kernel
theorem dX9_clear_7 : decode cX9_clear 7 = .ok (.putfield 101, 3) := by decide +kernel
theorem dX9_clear_10 : decode cX9_clear 10 = .ok (.iload_n 1, 1) := by decide +kernel
theorem dX9_clear_11 : decode cX9_clear 11 = .ok (.ireturn, 1) := by decide +kernel
theorem dX9_comes_0 : decode cX9_comes 0 = .ok (.iconst 4, 1) := by decide +kernel
theorem dX9_comes_1 : decode cX9_comes 1 = .ok (.iload_n 1, 1) := by decide +kernel
theorem dX9_comes_2 : decode cX9_comes 2 = .ok (.imul, 1) := by decide +kernel
theorem dX9_comes_3 : decode cX9_comes 3 = .ok (.aload_n 0, 1) := by decide +kernel
theorem dX9_comes_4 : decode cX9_comes 4 = .ok (.getfield 32, 3) := by decide +kernel
theorem dX9_comes_7 : decode cX9_comes 7 = .ok (.iload_n 1, 1) := by decide +kernel
theorem dX9_comes_8 : decode cX9_comes 8 = .ok (.iaload, 1) := by decide +kernel
theorem dX9_comes_9 : decode cX9_comes 9 = .ok (.iadd, 1) := by decide +kernel
theorem dX9_comes_10 : decode cX9_comes 10 = .ok (.istore_n 2, 1) := by decide +kernel
theorem dX9_comes_11 : decode cX9_comes 11 = .ok (.aload_n 0, 1) := by decide +kernel
theorem dX9_comes_12 : decode cX9_comes 12 = .ok (.getfield 35, 3) := by decide +kernel
theorem dX9_comes_15 : decode cX9_comes 15 = .ok (.iload_n 2, 1) := by decide +kernel
theorem dX9_comes_16 : decode cX9_comes 16 = .ok (.aload_n 0, 1) := by decide +kernel
theorem dX9_comes_17 : decode cX9_comes 17 = .ok (.getfield 101, 3) := by decide +kernel
theorem dX9_comes_20 : decode cX9_comes 20 = .ok (.iastore, 1) := by decide +kernel
theorem dX9_comes_21 : decode cX9_comes 21 = .ok (.iconst 0, 1) := by decide +kernel
theorem dX9_comes_22 : decode cX9_comes 22 = .ok (.istore_n 3, 1) := by decide +kernel
theorem dX9_comes_23 : decode cX9_comes 23 = .ok (.iload_n 3, 1) := by decide +kernel
theorem dX9_comes_24 : decode cX9_comes 24 = .ok (.aload_n 0, 1) := by decide +kernel
theorem dX9_comes_25 : decode cX9_comes 25 = .ok (.getfield 101, 3) := by decide +kernel
theorem dX9_comes_28 : decode cX9_comes 28 = .ok (.if_icmp .ge 38, 3) := by decide +kernel
theorem dX9_comes_31 : decode cX9_comes 31 = .ok (.aload_n 0, 1) := by decide +kernel
theorem dX9_comes_32 : decode cX9_comes 32 = .ok (.getfield 38, 3) := by decide +kernel
theorem dX9_comes_35 : decode cX9_comes 35 = .ok (.bipush 40, 2) := by decide +kernel
theorem dX9_comes_37 : decode cX9_comes 37 = .ok (.iload_n 2, 1) := by decide +kernel
theorem dX9_comes_38 : decode cX9_comes 38 = .ok (.imul, 1) := by decide +kernel
theorem dX9_comes_39 : decode cX9_comes 39 = .ok (.iload_n 3, 1) := by decide +kernel
theorem dX9_comes_40 : decode cX9_comes 40 = .ok (.iadd, 1) := by decide +kernel
theorem dX9_comes_41 : decode cX9_comes 41 = .ok (.aload_n 0, 1) := by decide +kernel
theorem dX9_comes_42 : decode cX9_comes 42 = .ok (.getfield 7, 3) := by decide +kernel
theorem dX9_comes_45 : decode cX9_comes 45 = .ok (.iload_n 3, 1) := by decide +kernel
theorem dX9_comes_46 : decode cX9_comes 46 = .ok (.iaload, 1) := by decide +kernel
theorem dX9_comes_47 : decode cX9_comes 47 = .ok (.iastore, 1) := by decide +kernel
theorem dX9_comes_48 : decode cX9_comes 48 = .ok (.aload_n 0, 1) := by decide +kernel
theorem dX9_comes_49 : decode cX9_comes 49 = .ok (.getfield 41, 3) := by decide +kernel
theorem dX9_comes_52 : decode cX9_comes 52 = .ok (.bipush 40, 2) := by decide +kernel
theorem dX9_comes_54 : decode cX9_comes 54 = .ok (.iload_n 2, 1) := by decide +kernel
theorem dX9_comes_55 : decode cX9_comes 55 = .ok (.imul, 1) := by decide +kernel
theorem dX9_comes_56 : decode cX9_comes 56 = .ok (.iload_n 3, 1) := by decide +kernel
theorem dX9_comes_57 : decode cX9_comes 57 = .ok (.iadd, 1) := by decide +kernel
theorem dX9_comes_58 : decode cX9_comes 58 = .ok (.iconst 0, 1) := by decide +kernel
theorem dX9_comes_59 : decode cX9_comes 59 = .ok (.bastore, 1) := by decide +kernel
theorem dX9_comes_60 : decode cX9_comes 60 = .ok (.iinc 3 1, 3) := by decide +kernel
theorem dX9_comes_63 : decode cX9_comes 63 = .ok (.goto (-40), 3) := by decide +kernel
theorem dX9_comes_66 : decode cX9_comes 66 = .ok (.aload_n 0, 1) := by decide +kernel
theorem dX9_comes_67 : decode cX9_comes 67 = .ok (.getfield 32, 3) := by decide +kernel
theorem dX9_comes_70 : decode cX9_comes 70 = .ok (.iload_n 1, 1) := by decide +kernel
theorem dX9_comes_71 : decode cX9_comes 71 = .ok (.dup2, 1) := by decide +kernel
theorem dX9_comes_72 : decode cX9_comes 72 = .ok (.iaload, 1) := by decide +kernel
theorem dX9_comes_73 : decode cX9_comes 73 = .ok (.iconst 1, 1) := by decide +kernel
theorem dX9_comes_74 : decode cX9_comes 74 = .ok (.iadd, 1) := by decide +kernel
theorem dX9_comes_75 : decode cX9_comes 75 = .ok (.iastore, 1) := by decide +kernel
theorem dX9_comes_76 : decode cX9_comes 76 = .ok (.aload_n 0, 1) := by decide +kernel
theorem dX9_comes_77 : decode cX9_comes 77 = .ok (.iconst 0, 1) := by decide +kernel
theorem dX9_comes_78 : decode cX9_comes 78 = .ok (.putfield 101, 3) := by decide +kernel
theorem dX9_comes_81 : decode cX9_comes 81 = .ok (.return_, 1) := by decide +kernel
set_option maxRecDepth 20000 in
theorem ggX9_paper_X9_in : GoodIn wsX9_paper wsX9_in := goodIn_r _ [11] (by decide +kernel) (by decide +kernel)
set_option maxRecDepth 20000 in
theorem gX9_paper_X9_in : GoodIn wsX9_paper (va_wsS RX9 93 yX9_in wsX9_in) := goodIn_app (goodIn_of _ (by decide +kernel)) ggX9_paper_X9_in
set_option maxRecDepth 20000 in
theorem ggX9_paper_X9_comes : GoodIn wsX9_paper wsX9_comes := goodIn_r _ [15, 7, 16, 1, 17, 18, 19, 20, 21, 22, 23, 24, 25, 26, 27, 28, 29, 30, 31, 32, 33, 34, 35, 36, 37, 38, 39, 40, 41, 42, 43, 44, 45, 46, 47, 48, 49, 50, 51, 52] (by decide +kernel) (by decide +kernel)
set_option maxRecDepth 20000 in
theorem gX9_paper_X9_comes : GoodIn wsX9_paper (wsV RX9 104 RX9 yX9_comes wsX9_comes) := goodIn_app (goodIn_of _ (by decide +kernel)) ggX9_paper_X9_comes
theorem dX9_paper_0 : decode cX9_paper 0 = .ok (.iload_n 1, 1) := by decide +kernel
theorem dX9_paper_1 : decode cX9_paper 1 = .ok (.iconst 0, 1) := by decide +kernel
theorem dX9_paper_2 : decode cX9_paper 2 = .ok (.iconst 2, 1) := by decide +kernel
theorem dX9_paper_3 : decode cX9_paper 3 = .ok (.invokestatic 93, 3) := by decide +kernel
theorem dX9_paper_6 : decode cX9_paper 6 = .ok (.ifCond .eq 21, 3) := by decide +kernel
theorem dX9_paper_9 : decode cX9_paper 9 = .ok (.iload_n 2, 1) := by decide +kernel
theorem dX9_paper_10 : decode cX9_paper 10 = .ok (.iconst 0, 1) := by decide +kernel
theorem dX9_paper_11 : decode cX9_paper 11 = .ok (.iconst 3, 1) := by decide +kernel
theorem dX9_paper_12 : decode cX9_paper 12 = .ok (.invokestatic 93, 3) := by decide +kernel
theorem dX9_paper_15 : decode cX9_paper 15 = .ok (.ifCond .eq 12, 3) := by decide +kernel
theorem dX9_paper_18 : decode cX9_paper 18 = .ok (.iload_n 1, 1) := by decide +kernel
theorem dX9_paper_19 : decode cX9_paper 19 = .ok (.iconst 1, 1) := by decide +kernel
theorem dX9_paper_20 : decode cX9_paper 20 = .ok (.if_icmp .ne 9, 3) := by decide +kernel
theorem dX9_paper_23 : decode cX9_paper 23 = .ok (.iload_n 3, 1) := by decide +kernel
theorem dX9_paper_24 : decode cX9_paper 24 = .ok (.ifCond .ge 5, 3) := by decide +kernel
theorem dX9_paper_27 : decode cX9_paper 27 = .ok (.iconst (-1), 1) := by decide +kernel
theorem dX9_paper_28 : decode cX9_paper 28 = .ok (.ireturn, 1) := by decide +kernel
theorem dX9_paper_29 : decode cX9_paper 29 = .ok (.aload_n 0, 1) := by decide +kernel
theorem dX9_paper_30 : decode cX9_paper 30 = .ok (.getfield 101, 3) := by decide +kernel
theorem dX9_paper_33 : decode cX9_paper 33 = .ok (.ifCond .ne 6, 3) := by decide +kernel
theorem dX9_paper_36 : decode cX9_paper 36 = .ok (.bipush (-2), 2) := by decide +kernel
theorem dX9_paper_38 : decode cX9_paper 38 = .ok (.ireturn, 1) := by decide +kernel
theorem dX9_paper_39 : decode cX9_paper 39 = .ok (.aload_n 0, 1) := by decide +kernel
theorem dX9_paper_40 : decode cX9_paper 40 = .ok (.getfield 90, 3) := by decide +kernel
theorem dX9_paper_43 : decode cX9_paper 43 = .ok (.bipush 8, 2) := by decide +kernel
theorem dX9_paper_45 : decode cX9_paper 45 = .ok (.if_icmp .ne 6, 3) := by decide +kernel
theorem dX9_paper_48 : decode cX9_paper 48 = .ok (.bipush (-3), 2) := by decide +kernel
theorem dX9_paper_50 : decode cX9_paper 50 = .ok (.ireturn, 1) := by decide +kernel
theorem dX9_paper_51 : decode cX9_paper 51 = .ok (.aload_n 0, 1) := by decide +kernel
theorem dX9_paper_52 : decode cX9_paper 52 = .ok (.getfield 19, 3) := by decide +kernel
theorem dX9_paper_55 : decode cX9_paper 55 = .ok (.aload_n 0, 1) := by decide +kernel
theorem dX9_paper_56 : decode cX9_paper 56 = .ok (.getfield 90, 3) := by decide +kernel
theorem dX9_paper_59 : decode cX9_paper 59 = .ok (.iload_n 1, 1) := by decide +kernel
theorem dX9_paper_60 : decode cX9_paper 60 = .ok (.iastore, 1) := by decide +kernel
theorem dX9_paper_61 : decode cX9_paper 61 = .ok (.aload_n 0, 1) := by decide +kernel
theorem dX9_paper_62 : decode cX9_paper 62 = .ok (.getfield 22, 3) := by decide +kernel
theorem dX9_paper_65 : decode cX9_paper 65 = .ok (.aload_n 0, 1) := by decide +kernel
theorem dX9_paper_66 : decode cX9_paper 66 = .ok (.getfield 90, 3) := by decide +kernel
theorem dX9_paper_69 : decode cX9_paper 69 = .ok (.iload_n 2, 1) := by decide +kernel
theorem dX9_paper_70 : decode cX9_paper 70 = .ok (.iastore, 1) := by decide +kernel
theorem dX9_paper_71 : decode cX9_paper 71 = .ok (.aload_n 0, 1) := by decide +kernel
theorem dX9_paper_72 : decode cX9_paper 72 = .ok (.getfield 25, 3) := by decide +kernel
theorem dX9_paper_75 : decode cX9_paper 75 = .ok (.aload_n 0, 1) := by decide +kernel
theorem dX9_paper_76 : decode cX9_paper 76 = .ok (.getfield 90, 3) := by decide +kernel
theorem dX9_paper_79 : decode cX9_paper 79 = .ok (.iload_n 1, 1) := by decide +kernel
theorem dX9_paper_80 : decode cX9_paper 80 = .ok (.iconst 1, 1) := by decide +kernel
theorem dX9_paper_81 : decode cX9_paper 81 = .ok (.if_icmp .ne 7, 3) := by decide +kernel
theorem dX9_paper_84 : decode cX9_paper 84 = .ok (.iload_n 3, 1) := by decide +kernel
theorem dX9_paper_85 : decode cX9_paper 85 = .ok (.goto 4, 3) := by decide +kernel
theorem dX9_paper_88 : decode cX9_paper 88 = .ok (.iconst 0, 1) := by decide +kernel
theorem dX9_paper_89 : decode cX9_paper 89 = .ok (.iastore, 1) := by decide +kernel
theorem dX9_paper_90 : decode cX9_paper 90 = .ok (.aload_n 0, 1) := by decide +kernel
theorem dX9_paper_91 : decode cX9_paper 91 = .ok (.getfield 28, 3) := by decide +kernel
theorem dX9_paper_94 : decode cX9_paper 94 = .ok (.aload_n 0, 1) := by decide +kernel
theorem dX9_paper_95 : decode cX9_paper 95 = .ok (.getfield 90, 3) := by decide +kernel
theorem dX9_paper_98 : decode cX9_paper 98 = .ok (.iconst 0, 1) := by decide +kernel
theorem dX9_paper_99 : decode cX9_paper 99 = .ok (.bastore, 1) := by decide +kernel
theorem dX9_paper_100 : decode cX9_paper 100 = .ok (.aload_n 0, 1) := by decide +kernel
theorem dX9_paper_101 : decode cX9_paper 101 = .ok (.getfield 32, 3) := by decide +kernel
theorem dX9_paper_104 : decode cX9_paper 104 = .ok (.aload_n 0, 1) := by decide +kernel
theorem dX9_paper_105 : decode cX9_paper 105 = .ok (.getfield 90, 3) := by decide +kernel
theorem dX9_paper_108 : decode cX9_paper 108 = .ok (.iconst 0, 1) := by decide +kernel
theorem dX9_paper_109 : decode cX9_paper 109 = .ok (.iastore, 1) := by decide +kernel
theorem dX9_paper_110 : decode cX9_paper 110 = .ok (.aload_n 0, 1) := by decide +kernel
theorem dX9_paper_111 : decode cX9_paper 111 = .ok (.aload_n 0, 1) := by decide +kernel
theorem dX9_paper_112 : decode cX9_paper 112 = .ok (.getfield 90, 3) := by decide +kernel
theorem dX9_paper_115 : decode cX9_paper 115 = .ok (.invokevirtual 104, 3) := by decide +kernel
theorem dX9_paper_118 : decode cX9_paper 118 = .ok (.aload_n 0, 1) := by decide +kernel
theorem dX9_paper_119 : decode cX9_paper 119 = .ok (.dup, 1) := by decide +kernel
theorem dX9_paper_120 : decode cX9_paper 120 = .ok (.getfield 90, 3) := by decide +kernel
theorem dX9_paper_123 : decode cX9_paper 123 = .ok (.iconst 1, 1) := by decide +kernel
theorem dX9_paper_124 : decode cX9_paper 124 = .ok (.iadd, 1) := by decide +kernel
theorem dX9_paper_125 : decode cX9_paper 125 = .ok (.putfield 90, 3) := by decide +kernel
theorem dX9_paper_128 : decode cX9_paper 128 = .ok (.aload_n 0, 1) := by decide +kernel
theorem dX9_paper_129 : decode cX9_paper 129 = .ok (.getfield 90, 3) := by decide +kernel
theorem dX9_paper_132 : decode cX9_paper 132 = .ok (.iconst 1, 1) := by decide +kernel
theorem dX9_paper_133 : decode cX9_paper 133 = .ok (.isub, 1) := by decide +kernel
theorem dX9_paper_134 : decode cX9_paper 134 = .ok (.ireturn, 1) := by decide +kernel
set_option maxRecDepth 20000 in
theorem ggX9_version_X9_isPaper : GoodIn wsX9_version wsX9_isPaper := goodIn_r _ [8, 9, 10, 11, 7, 12, 21, 22, 23, 24, 25, 26, 27, 28, 29, 30, 31, 32, 33, 34, 35, 36, 37, 38, 39, 40, 41, 42, 43, 44, 45, 46, 47, 48, 49, 50, 51, 52, 53] (by decide +kernel) (by decide +kernel)
set_option maxRecDepth 20000 in
theorem gX9_version_X9_isPaper : GoodIn wsX9_version (wsV RX9 97 RX9 yX9_isPaper wsX9_isPaper) := goodIn_app (goodIn_of _ (by decide +kernel)) ggX9_version_X9_isPaper
set_option maxRecDepth 20000 in
theorem ggX9_version_X9_comes : GoodIn wsX9_version wsX9_comes := goodIn_r _ [16, 3, 17, 1, 18, 19, 20, 21, 22, 23, 24, 25, 26, 27, 28, 29, 30, 31, 32, 33, 34, 35, 36, 37, 38, 39, 40, 41, 42, 43, 44, 45, 46, 47, 48, 49, 50, 51, 52, 53] (by decide +kernel) (by decide +kernel)
set_option maxRecDepth 20000 in
theorem gX9_version_X9_comes : GoodIn wsX9_version (wsV RX9 104 RX9 yX9_comes wsX9_comes) := goodIn_app (goodIn_of _ (by decide +kernel)) ggX9_version_X9_comes
theorem dX9_version_0 : decode cX9_version 0 = .ok (.aload_n 0, 1) := by decide +kernel
theorem dX9_version_1 : decode cX9_version 1 = .ok (.iload_n 1, 1) := by decide +kernel
theorem dX9_version_2 : decode cX9_version 2 = .ok (.invokevirtual 97, 3) := by decide +kernel
theorem dX9_version_5 : decode cX9_version 5 = .ok (.ifCond .ne 5, 3) := by decide +kernel
theorem dX9_version_8 : decode cX9_version 8 = .ok (.iconst (-1), 1) := by decide +kernel
theorem dX9_version_9 : decode cX9_version 9 = .ok (.ireturn, 1) := by decide +kernel
theorem dX9_version_10 : decode cX9_version 10 = .ok (.aload_n 0, 1) := by decide +kernel
theorem dX9_version_11 : decode cX9_version 11 = .ok (.getfield 101, 3) := by decide +kernel
theorem dX9_version_14 : decode cX9_version 14 = .ok (.ifCond .eq 12, 3) := by decide +kernel
theorem dX9_version_17 : decode cX9_version 17 = .ok (.aload_n 0, 1) := by decide +kernel
theorem dX9_version_18 : decode cX9_version 18 = .ok (.getfield 28, 3) := by decide +kernel
theorem dX9_version_21 : decode cX9_version 21 = .ok (.iload_n 1, 1) := by decide +kernel
theorem dX9_version_22 : decode cX9_version 22 = .ok (.baload, 1) := by decide +kernel
theorem dX9_version_23 : decode cX9_version 23 = .ok (.ifCond .eq 6, 3) := by decide +kernel
theorem dX9_version_26 : decode cX9_version 26 = .ok (.bipush (-2), 2) := by decide +kernel
theorem dX9_version_28 : decode cX9_version 28 = .ok (.ireturn, 1) := by decide +kernel
theorem dX9_version_29 : decode cX9_version 29 = .ok (.aload_n 0, 1) := by decide +kernel
theorem dX9_version_30 : decode cX9_version 30 = .ok (.getfield 32, 3) := by decide +kernel
theorem dX9_version_33 : decode cX9_version 33 = .ok (.iload_n 1, 1) := by decide +kernel
theorem dX9_version_34 : decode cX9_version 34 = .ok (.iaload, 1) := by decide +kernel
theorem dX9_version_35 : decode cX9_version 35 = .ok (.iconst 4, 1) := by decide +kernel
theorem dX9_version_36 : decode cX9_version 36 = .ok (.if_icmp .ne 6, 3) := by decide +kernel
theorem dX9_version_39 : decode cX9_version 39 = .ok (.bipush (-3), 2) := by decide +kernel
theorem dX9_version_41 : decode cX9_version 41 = .ok (.ireturn, 1) := by decide +kernel
theorem dX9_version_42 : decode cX9_version 42 = .ok (.aload_n 0, 1) := by decide +kernel
theorem dX9_version_43 : decode cX9_version 43 = .ok (.iload_n 1, 1) := by decide +kernel
theorem dX9_version_44 : decode cX9_version 44 = .ok (.invokevirtual 104, 3) := by decide +kernel
theorem dX9_version_47 : decode cX9_version 47 = .ok (.aload_n 0, 1) := by decide +kernel
theorem dX9_version_48 : decode cX9_version 48 = .ok (.getfield 32, 3) := by decide +kernel
theorem dX9_version_51 : decode cX9_version 51 = .ok (.iload_n 1, 1) := by decide +kernel
theorem dX9_version_52 : decode cX9_version 52 = .ok (.iaload, 1) := by decide +kernel
theorem dX9_version_53 : decode cX9_version 53 = .ok (.iconst 1, 1) := by decide +kernel
theorem dX9_version_54 : decode cX9_version 54 = .ok (.isub, 1) := by decide +kernel
theorem dX9_version_55 : decode cX9_version 55 = .ok (.ireturn, 1) := by decide +kernel
set_option maxRecDepth 20000 in
theorem ggX9_blacken_X9_isVersion : GoodIn wsX9_blacken wsX9_isVersion := goodIn_r _ [7, 8, 9, 10, 11, 6, 12, 13, 14, 15, 16, 17, 18, 19, 20, 21, 22, 23, 24, 25, 26, 27, 28, 29, 30, 31, 32, 33, 34, 35, 36, 37, 38, 39, 40, 41, 42, 43, 44, 45, 46, 47, 48, 49] (by decide +kernel) (by decide +kernel)
set_option maxRecDepth 20000 in
theorem gX9_blacken_X9_isVersion : GoodIn wsX9_blacken (wsV RX9 108 RX9 yX9_isVersion wsX9_isVersion) := goodIn_app (goodIn_of _ (by decide +kernel)) ggX9_blacken_X9_isVersion
set_option maxRecDepth 20000 in
theorem ggX9_blacken_X9_in : GoodIn wsX9_blacken wsX9_in := goodIn_r _ [16] (by decide +kernel) (by decide +kernel)
set_option maxRecDepth 20000 in
theorem gX9_blacken_X9_in : GoodIn wsX9_blacken (va_wsS RX9 93 yX9_in wsX9_in) := goodIn_app (goodIn_of _ (by decide +kernel)) ggX9_blacken_X9_in
theorem dX9_blacken_0 : decode cX9_blacken 0 = .ok (.aload_n 0, 1) := by decide +kernel
theorem dX9_blacken_1 : decode cX9_blacken 1 = .ok (.iload_n 1, 1) := by decide +kernel
theorem dX9_blacken_2 : decode cX9_blacken 2 = .ok (.iload_n 2, 1) := by decide +kernel
theorem dX9_blacken_3 : decode cX9_blacken 3 = .ok (.invokevirtual 108, 3) := by decide +kernel
theorem dX9_blacken_6 : decode cX9_blacken 6 = .ok (.ifCond .eq 28, 3) := by decide +kernel
theorem dX9_blacken_9 : decode cX9_blacken 9 = .ok (.iload_n 3, 1) := by decide +kernel
theorem dX9_blacken_10 : decode cX9_blacken 10 = .ok (.ifCond .lt 24, 3) := by decide +kernel
theorem dX9_blacken_13 : decode cX9_blacken 13 = .ok (.iload 4, 2) := by decide +kernel
theorem dX9_blacken_15 : decode cX9_blacken 15 = .ok (.aload_n 0, 1) := by decide +kernel
theorem dX9_blacken_16 : decode cX9_blacken 16 = .ok (.getfield 35, 3) := by decide +kernel
theorem dX9_blacken_19 : decode cX9_blacken 19 = .ok (.iconst 4, 1) := by decide +kernel
theorem dX9_blacken_20 : decode cX9_blacken 20 = .ok (.iload_n 1, 1) := by decide +kernel
theorem dX9_blacken_21 : decode cX9_blacken 21 = .ok (.imul, 1) := by decide +kernel
theorem dX9_blacken_22 : decode cX9_blacken 22 = .ok (.iload_n 2, 1) := by decide +kernel
theorem dX9_blacken_23 : decode cX9_blacken 23 = .ok (.iadd, 1) := by decide +kernel
theorem dX9_blacken_24 : decode cX9_blacken 24 = .ok (.iaload, 1) := by decide +kernel
theorem dX9_blacken_25 : decode cX9_blacken 25 = .ok (.if_icmp .gt 9, 3) := by decide +kernel
theorem dX9_blacken_28 : decode cX9_blacken 28 = .ok (.iload_n 3, 1) := by decide +kernel
theorem dX9_blacken_29 : decode cX9_blacken 29 = .ok (.iload 4, 2) := by decide +kernel
theorem dX9_blacken_31 : decode cX9_blacken 31 = .ok (.if_icmp .lt 5, 3) := by decide +kernel
theorem dX9_blacken_34 : decode cX9_blacken 34 = .ok (.iconst (-1), 1) := by decide +kernel
theorem dX9_blacken_35 : decode cX9_blacken 35 = .ok (.ireturn, 1) := by decide +kernel
theorem dX9_blacken_36 : decode cX9_blacken 36 = .ok (.iconst 4, 1) := by decide +kernel
theorem dX9_blacken_37 : decode cX9_blacken 37 = .ok (.iload_n 1, 1) := by decide +kernel
theorem dX9_blacken_38 : decode cX9_blacken 38 = .ok (.imul, 1) := by decide +kernel
theorem dX9_blacken_39 : decode cX9_blacken 39 = .ok (.iload_n 2, 1) := by decide +kernel
theorem dX9_blacken_40 : decode cX9_blacken 40 = .ok (.iadd, 1) := by decide +kernel
theorem dX9_blacken_41 : decode cX9_blacken 41 = .ok (.istore 5, 2) := by decide +kernel
theorem dX9_blacken_43 : decode cX9_blacken 43 = .ok (.iconst 0, 1) := by decide +kernel
theorem dX9_blacken_44 : decode cX9_blacken 44 = .ok (.istore 6, 2) := by decide +kernel
theorem dX9_blacken_46 : decode cX9_blacken 46 = .ok (.iconst 0, 1) := by decide +kernel
theorem dX9_blacken_47 : decode cX9_blacken 47 = .ok (.istore 7, 2) := by decide +kernel
theorem dX9_blacken_49 : decode cX9_blacken 49 = .ok (.iload 7, 2) := by decide +kernel
theorem dX9_blacken_51 : decode cX9_blacken 51 = .ok (.aload_n 0, 1) := by decide +kernel
theorem dX9_blacken_52 : decode cX9_blacken 52 = .ok (.getfield 35, 3) := by decide +kernel
theorem dX9_blacken_55 : decode cX9_blacken 55 = .ok (.iload 5, 2) := by decide +kernel
theorem dX9_blacken_57 : decode cX9_blacken 57 = .ok (.iaload, 1) := by decide +kernel
theorem dX9_blacken_58 : decode cX9_blacken 58 = .ok (.if_icmp .ge 82, 3) := by decide +kernel
theorem dX9_blacken_61 : decode cX9_blacken 61 = .ok (.aload_n 0, 1) := by decide +kernel
theorem dX9_blacken_62 : decode cX9_blacken 62 = .ok (.getfield 41, 3) := by decide +kernel
theorem dX9_blacken_65 : decode cX9_blacken 65 = .ok (.bipush 40, 2) := by decide +kernel
theorem dX9_blacken_67 : decode cX9_blacken 67 = .ok (.iload 5, 2) := by decide +kernel
theorem dX9_blacken_69 : decode cX9_blacken 69 = .ok (.imul, 1) := by decide +kernel
theorem dX9_blacken_70 : decode cX9_blacken 70 = .ok (.iload 7, 2) := by decide +kernel
theorem dX9_blacken_72 : decode cX9_blacken 72 = .ok (.iadd, 1) := by decide +kernel
theorem dX9_blacken_73 : decode cX9_blacken 73 = .ok (.aload_n 0, 1) := by decide +kernel
theorem dX9_blacken_74 : decode cX9_blacken 74 = .ok (.getfield 41, 3) := by decide +kernel
theorem dX9_blacken_77 : decode cX9_blacken 77 = .ok (.bipush 40, 2) := by decide +kernel
theorem dX9_blacken_79 : decode cX9_blacken 79 = .ok (.iload 5, 2) := by decide +kernel
theorem dX9_blacken_81 : decode cX9_blacken 81 = .ok (.imul, 1) := by decide +kernel
theorem dX9_blacken_82 : decode cX9_blacken 82 = .ok (.iload 7, 2) := by decide +kernel
theorem dX9_blacken_84 : decode cX9_blacken 84 = .ok (.iadd, 1) := by decide +kernel
theorem dX9_blacken_85 : decode cX9_blacken 85 = .ok (.baload, 1) := by decide +kernel
theorem dX9_blacken_86 : decode cX9_blacken 86 = .ok (.ifCond .ne 16, 3) := by decide +kernel
theorem dX9_blacken_89 : decode cX9_blacken 89 = .ok (.iload 7, 2) := by decide +kernel
theorem dX9_blacken_91 : decode cX9_blacken 91 = .ok (.iload_n 3, 1) := by decide +kernel
theorem dX9_blacken_92 : decode cX9_blacken 92 = .ok (.iload 4, 2) := by decide +kernel
theorem dX9_blacken_94 : decode cX9_blacken 94 = .ok (.iconst 1, 1) := by decide +kernel
theorem dX9_blacken_95 : decode cX9_blacken 95 = .ok (.isub, 1) := by decide +kernel
theorem dX9_blacken_96 : decode cX9_blacken 96 = .ok (.invokestatic 93, 3) := by decide +kernel
theorem dX9_blacken_99 : decode cX9_blacken 99 = .ok (.ifCond .eq 7, 3) := by decide +kernel
theorem dX9_blacken_102 : decode cX9_blacken 102 = .ok (.iconst 1, 1) := by decide +kernel
theorem dX9_blacken_103 : decode cX9_blacken 103 = .ok (.goto 4, 3) := by decide +kernel
theorem dX9_blacken_106 : decode cX9_blacken 106 = .ok (.iconst 0, 1) := by decide +kernel
theorem dX9_blacken_107 : decode cX9_blacken 107 = .ok (.bastore, 1) := by decide +kernel
theorem dX9_blacken_108 : decode cX9_blacken 108 = .ok (.iload 6, 2) := by decide +kernel
theorem dX9_blacken_110 : decode cX9_blacken 110 = .ok (.aload_n 0, 1) := by decide +kernel
theorem dX9_blacken_111 : decode cX9_blacken 111 = .ok (.getfield 41, 3) := by decide +kernel
theorem dX9_blacken_114 : decode cX9_blacken 114 = .ok (.bipush 40, 2) := by decide +kernel
theorem dX9_blacken_116 : decode cX9_blacken 116 = .ok (.iload 5, 2) := by decide +kernel
theorem dX9_blacken_118 : decode cX9_blacken 118 = .ok (.imul, 1) := by decide +kernel
theorem dX9_blacken_119 : decode cX9_blacken 119 = .ok (.iload 7, 2) := by decide +kernel
theorem dX9_blacken_121 : decode cX9_blacken 121 = .ok (.iadd, 1) := by decide +kernel
theorem dX9_blacken_122 : decode cX9_blacken 122 = .ok (.baload, 1) := by decide +kernel
theorem dX9_blacken_123 : decode cX9_blacken 123 = .ok (.ifCond .eq 7, 3) := by decide +kernel
theorem dX9_blacken_126 : decode cX9_blacken 126 = .ok (.iconst 1, 1) := by decide +kernel
theorem dX9_blacken_127 : decode cX9_blacken 127 = .ok (.goto 4, 3) := by decide +kernel
theorem dX9_blacken_130 : decode cX9_blacken 130 = .ok (.iconst 0, 1) := by decide +kernel
theorem dX9_blacken_131 : decode cX9_blacken 131 = .ok (.iadd, 1) := by decide +kernel
theorem dX9_blacken_132 : decode cX9_blacken 132 = .ok (.istore 6, 2) := by decide +kernel
theorem dX9_blacken_134 : decode cX9_blacken 134 = .ok (.iinc 7 1, 3) := by decide +kernel
theorem dX9_blacken_137 : decode cX9_blacken 137 = .ok (.goto (-88), 3) := by decide +kernel
theorem dX9_blacken_140 : decode cX9_blacken 140 = .ok (.iload 6, 2) := by decide +kernel
theorem dX9_blacken_142 : decode cX9_blacken 142 = .ok (.ireturn, 1) := by decide +kernel
set_option maxRecDepth 20000 in
theorem ggX9_withdraw_X9_isPaper : GoodIn wsX9_withdraw wsX9_isPaper := goodIn_r _ [6, 7, 8, 9, 5, 10, 11, 12, 13, 14, 15, 16, 17, 18, 19, 20, 21, 22, 23, 24, 25, 26, 27, 28, 29, 30, 31, 32, 33, 34, 35, 36, 37, 38, 39, 40, 41, 42, 43] (by decide +kernel) (by decide +kernel)
set_option maxRecDepth 20000 in
theorem gX9_withdraw_X9_isPaper : GoodIn wsX9_withdraw (wsV RX9 97 RX9 yX9_isPaper wsX9_isPaper) := goodIn_app (goodIn_of _ (by decide +kernel)) ggX9_withdraw_X9_isPaper
theorem dX9_withdraw_0 : decode cX9_withdraw 0 = .ok (.aload_n 0, 1) := by decide +kernel
theorem dX9_withdraw_1 : decode cX9_withdraw 1 = .ok (.iload_n 1, 1) := by decide +kernel
theorem dX9_withdraw_2 : decode cX9_withdraw 2 = .ok (.invokevirtual 97, 3) := by decide +kernel
theorem dX9_withdraw_5 : decode cX9_withdraw 5 = .ok (.ifCond .ne 5, 3) := by decide +kernel
theorem dX9_withdraw_8 : decode cX9_withdraw 8 = .ok (.iconst (-1), 1) := by decide +kernel
theorem dX9_withdraw_9 : decode cX9_withdraw 9 = .ok (.ireturn, 1) := by decide +kernel
theorem dX9_withdraw_10 : decode cX9_withdraw 10 = .ok (.aload_n 0, 1) := by decide +kernel
theorem dX9_withdraw_11 : decode cX9_withdraw 11 = .ok (.getfield 28, 3) := by decide +kernel
theorem dX9_withdraw_14 : decode cX9_withdraw 14 = .ok (.iload_n 1, 1) := by decide +kernel
theorem dX9_withdraw_15 : decode cX9_withdraw 15 = .ok (.baload, 1) := by decide +kernel
theorem dX9_withdraw_16 : decode cX9_withdraw 16 = .ok (.ifCond .eq 6, 3) := by decide +kernel
theorem dX9_withdraw_19 : decode cX9_withdraw 19 = .ok (.bipush (-2), 2) := by decide +kernel
theorem dX9_withdraw_21 : decode cX9_withdraw 21 = .ok (.ireturn, 1) := by decide +kernel
theorem dX9_withdraw_22 : decode cX9_withdraw 22 = .ok (.aload_n 0, 1) := by decide +kernel
theorem dX9_withdraw_23 : decode cX9_withdraw 23 = .ok (.getfield 28, 3) := by decide +kernel
theorem dX9_withdraw_26 : decode cX9_withdraw 26 = .ok (.iload_n 1, 1) := by decide +kernel
theorem dX9_withdraw_27 : decode cX9_withdraw 27 = .ok (.iconst 1, 1) := by decide +kernel
theorem dX9_withdraw_28 : decode cX9_withdraw 28 = .ok (.bastore, 1) := by decide +kernel
theorem dX9_withdraw_29 : decode cX9_withdraw 29 = .ok (.iconst 1, 1) := by decide +kernel
theorem dX9_withdraw_30 : decode cX9_withdraw 30 = .ok (.ireturn, 1) := by decide +kernel
set_option maxRecDepth 20000 in
theorem ggX9_rights_X9_in : GoodIn wsX9_rights wsX9_in := goodIn_r _ [7] (by decide +kernel) (by decide +kernel)
set_option maxRecDepth 20000 in
theorem gX9_rights_X9_in : GoodIn wsX9_rights (va_wsS RX9 93 yX9_in wsX9_in) := goodIn_app (goodIn_of _ (by decide +kernel)) ggX9_rights_X9_in
theorem dX9_rights_0 : decode cX9_rights 0 = .ok (.iload_n 1, 1) := by decide +kernel
theorem dX9_rights_1 : decode cX9_rights 1 = .ok (.iconst 0, 1) := by decide +kernel
theorem dX9_rights_2 : decode cX9_rights 2 = .ok (.iconst 2, 1) := by decide +kernel
theorem dX9_rights_3 : decode cX9_rights 3 = .ok (.invokestatic 93, 3) := by decide +kernel
theorem dX9_rights_6 : decode cX9_rights 6 = .ok (.ifCond .eq 33, 3) := by decide +kernel
theorem dX9_rights_9 : decode cX9_rights 9 = .ok (.iload_n 2, 1) := by decide +kernel
theorem dX9_rights_10 : decode cX9_rights 10 = .ok (.iconst 0, 1) := by decide +kernel
theorem dX9_rights_11 : decode cX9_rights 11 = .ok (.iconst 3, 1) := by decide +kernel
theorem dX9_rights_12 : decode cX9_rights 12 = .ok (.invokestatic 93, 3) := by decide +kernel
theorem dX9_rights_15 : decode cX9_rights 15 = .ok (.ifCond .eq 24, 3) := by decide +kernel
theorem dX9_rights_18 : decode cX9_rights 18 = .ok (.iload_n 3, 1) := by decide +kernel
theorem dX9_rights_19 : decode cX9_rights 19 = .ok (.iconst 0, 1) := by decide +kernel
theorem dX9_rights_20 : decode cX9_rights 20 = .ok (.ldc 112, 2) := by decide +kernel
theorem dX9_rights_22 : decode cX9_rights 22 = .ok (.invokestatic 93, 3) := by decide +kernel
theorem dX9_rights_25 : decode cX9_rights 25 = .ok (.ifCond .eq 14, 3) := by decide +kernel
theorem dX9_rights_28 : decode cX9_rights 28 = .ok (.iload 4, 2) := by decide +kernel
theorem dX9_rights_30 : decode cX9_rights 30 = .ok (.iconst 0, 1) := by decide +kernel
theorem dX9_rights_31 : decode cX9_rights 31 = .ok (.ldc 112, 2) := by decide +kernel
theorem dX9_rights_33 : decode cX9_rights 33 = .ok (.invokestatic 93, 3) := by decide +kernel
theorem dX9_rights_36 : decode cX9_rights 36 = .ok (.ifCond .ne 5, 3) := by decide +kernel
theorem dX9_rights_39 : decode cX9_rights 39 = .ok (.iconst (-1), 1) := by decide +kernel
theorem dX9_rights_40 : decode cX9_rights 40 = .ok (.ireturn, 1) := by decide +kernel
theorem dX9_rights_41 : decode cX9_rights 41 = .ok (.aload_n 0, 1) := by decide +kernel
theorem dX9_rights_42 : decode cX9_rights 42 = .ok (.getfield 13, 3) := by decide +kernel
theorem dX9_rights_45 : decode cX9_rights 45 = .ok (.iconst 4, 1) := by decide +kernel
theorem dX9_rights_46 : decode cX9_rights 46 = .ok (.iload_n 1, 1) := by decide +kernel
theorem dX9_rights_47 : decode cX9_rights 47 = .ok (.imul, 1) := by decide +kernel
theorem dX9_rights_48 : decode cX9_rights 48 = .ok (.iload_n 2, 1) := by decide +kernel
theorem dX9_rights_49 : decode cX9_rights 49 = .ok (.iadd, 1) := by decide +kernel
theorem dX9_rights_50 : decode cX9_rights 50 = .ok (.iload_n 3, 1) := by decide +kernel
theorem dX9_rights_51 : decode cX9_rights 51 = .ok (.iastore, 1) := by decide +kernel
theorem dX9_rights_52 : decode cX9_rights 52 = .ok (.aload_n 0, 1) := by decide +kernel
theorem dX9_rights_53 : decode cX9_rights 53 = .ok (.getfield 16, 3) := by decide +kernel
theorem dX9_rights_56 : decode cX9_rights 56 = .ok (.iconst 4, 1) := by decide +kernel
theorem dX9_rights_57 : decode cX9_rights 57 = .ok (.iload_n 1, 1) := by decide +kernel
theorem dX9_rights_58 : decode cX9_rights 58 = .ok (.imul, 1) := by decide +kernel
theorem dX9_rights_59 : decode cX9_rights 59 = .ok (.iload_n 2, 1) := by decide +kernel
theorem dX9_rights_60 : decode cX9_rights 60 = .ok (.iadd, 1) := by decide +kernel
theorem dX9_rights_61 : decode cX9_rights 61 = .ok (.iload 4, 2) := by decide +kernel
theorem dX9_rights_63 : decode cX9_rights 63 = .ok (.iastore, 1) := by decide +kernel
theorem dX9_rights_64 : decode cX9_rights 64 = .ok (.iconst 1, 1) := by decide +kernel
theorem dX9_rights_65 : decode cX9_rights 65 = .ok (.ireturn, 1) := by decide +kernel
set_option maxRecDepth 20000 in
theorem ggX9_tick_X9_in : GoodIn wsX9_tick wsX9_in := goodIn_r _ [5] (by decide +kernel) (by decide +kernel)
set_option maxRecDepth 20000 in
theorem gX9_tick_X9_in : GoodIn wsX9_tick (va_wsS RX9 93 yX9_in wsX9_in) := goodIn_app (goodIn_of _ (by decide +kernel)) ggX9_tick_X9_in
theorem dX9_tick_0 : decode cX9_tick 0 = .ok (.iload_n 1, 1) := by decide +kernel
theorem dX9_tick_1 : decode cX9_tick 1 = .ok (.iconst 1, 1) := by decide +kernel
theorem dX9_tick_2 : decode cX9_tick 2 = .ok (.sipush 1000, 3) := by decide +kernel
theorem dX9_tick_5 : decode cX9_tick 5 = .ok (.invokestatic 93, 3) := by decide +kernel
theorem dX9_tick_8 : decode cX9_tick 8 = .ok (.ifCond .ne 5, 3) := by decide +kernel
theorem dX9_tick_11 : decode cX9_tick 11 = .ok (.iconst (-1), 1) := by decide +kernel
theorem dX9_tick_12 : decode cX9_tick 12 = .ok (.ireturn, 1) := by decide +kernel
theorem dX9_tick_13 : decode cX9_tick 13 = .ok (.aload_n 0, 1) := by decide +kernel
theorem dX9_tick_14 : decode cX9_tick 14 = .ok (.dup, 1) := by decide +kernel
theorem dX9_tick_15 : decode cX9_tick 15 = .ok (.getfield 86, 3) := by decide +kernel
theorem dX9_tick_18 : decode cX9_tick 18 = .ok (.iload_n 1, 1) := by decide +kernel
theorem dX9_tick_19 : decode cX9_tick 19 = .ok (.iadd, 1) := by decide +kernel
theorem dX9_tick_20 : decode cX9_tick 20 = .ok (.putfield 86, 3) := by decide +kernel
theorem dX9_tick_23 : decode cX9_tick 23 = .ok (.aload_n 0, 1) := by decide +kernel
theorem dX9_tick_24 : decode cX9_tick 24 = .ok (.getfield 86, 3) := by decide +kernel
theorem dX9_tick_27 : decode cX9_tick 27 = .ok (.ireturn, 1) := by decide +kernel
set_option maxRecDepth 20000 in
theorem ggX9_about_X9_isPaper : GoodIn wsX9_about wsX9_isPaper := goodIn_r _ [10, 11, 12, 13, 9, 14, 15, 16, 17, 18, 19, 20, 21, 22, 23, 24, 25, 26, 27, 28, 29, 30, 31, 32, 33, 34, 35, 36, 37, 38, 39, 40, 41, 42, 43, 44, 45, 46, 47] (by decide +kernel) (by decide +kernel)
set_option maxRecDepth 20000 in
theorem gX9_about_X9_isPaper : GoodIn wsX9_about (wsV RX9 97 RX9 yX9_isPaper wsX9_isPaper) := goodIn_app (goodIn_of _ (by decide +kernel)) ggX9_about_X9_isPaper
theorem dX9_about_0 : decode cX9_about 0 = .ok (.aload_n 0, 1) := by decide +kernel
theorem dX9_about_1 : decode cX9_about 1 = .ok (.iload_n 1, 1) := by decide +kernel
theorem dX9_about_2 : decode cX9_about 2 = .ok (.invokevirtual 97, 3) := by decide +kernel
theorem dX9_about_5 : decode cX9_about 5 = .ok (.ifCond .ne 5, 3) := by decide +kernel
theorem dX9_about_8 : decode cX9_about 8 = .ok (.iconst (-1), 1) := by decide +kernel
theorem dX9_about_9 : decode cX9_about 9 = .ok (.ireturn, 1) := by decide +kernel
theorem dX9_about_10 : decode cX9_about 10 = .ok (.iload_n 2, 1) := by decide +kernel
theorem dX9_about_11 : decode cX9_about 11 = .ok (.tableswitch 76 0 4 #[33, 40, 47, 54, 69], 33) := by decide +kernel
theorem dX9_about_44 : decode cX9_about 44 = .ok (.aload_n 0, 1) := by decide +kernel
theorem dX9_about_45 : decode cX9_about 45 = .ok (.getfield 19, 3) := by decide +kernel
theorem dX9_about_48 : decode cX9_about 48 = .ok (.iload_n 1, 1) := by decide +kernel
theorem dX9_about_49 : decode cX9_about 49 = .ok (.iaload, 1) := by decide +kernel
theorem dX9_about_50 : decode cX9_about 50 = .ok (.ireturn, 1) := by decide +kernel
theorem dX9_about_51 : decode cX9_about 51 = .ok (.aload_n 0, 1) := by decide +kernel
theorem dX9_about_52 : decode cX9_about 52 = .ok (.getfield 22, 3) := by decide +kernel
theorem dX9_about_55 : decode cX9_about 55 = .ok (.iload_n 1, 1) := by decide +kernel
theorem dX9_about_56 : decode cX9_about 56 = .ok (.iaload, 1) := by decide +kernel
theorem dX9_about_57 : decode cX9_about 57 = .ok (.ireturn, 1) := by decide +kernel
theorem dX9_about_58 : decode cX9_about 58 = .ok (.aload_n 0, 1) := by decide +kernel
theorem dX9_about_59 : decode cX9_about 59 = .ok (.getfield 32, 3) := by decide +kernel
theorem dX9_about_62 : decode cX9_about 62 = .ok (.iload_n 1, 1) := by decide +kernel
theorem dX9_about_63 : decode cX9_about 63 = .ok (.iaload, 1) := by decide +kernel
theorem dX9_about_64 : decode cX9_about 64 = .ok (.ireturn, 1) := by decide +kernel
theorem dX9_about_65 : decode cX9_about 65 = .ok (.aload_n 0, 1) := by decide +kernel
theorem dX9_about_66 : decode cX9_about 66 = .ok (.getfield 28, 3) := by decide +kernel
theorem dX9_about_69 : decode cX9_about 69 = .ok (.iload_n 1, 1) := by decide +kernel
theorem dX9_about_70 : decode cX9_about 70 = .ok (.baload, 1) := by decide +kernel
theorem dX9_about_71 : decode cX9_about 71 = .ok (.ifCond .eq 7, 3) := by decide +kernel
theorem dX9_about_74 : decode cX9_about 74 = .ok (.iconst 1, 1) := by decide +kernel
theorem dX9_about_75 : decode cX9_about 75 = .ok (.goto 4, 3) := by decide +kernel
theorem dX9_about_78 : decode cX9_about 78 = .ok (.iconst 0, 1) := by decide +kernel
theorem dX9_about_79 : decode cX9_about 79 = .ok (.ireturn, 1) := by decide +kernel
theorem dX9_about_80 : decode cX9_about 80 = .ok (.aload_n 0, 1) := by decide +kernel
theorem dX9_about_81 : decode cX9_about 81 = .ok (.getfield 25, 3) := by decide +kernel
theorem dX9_about_84 : decode cX9_about 84 = .ok (.iload_n 1, 1) := by decide +kernel
theorem dX9_about_85 : decode cX9_about 85 = .ok (.iaload, 1) := by decide +kernel
theorem dX9_about_86 : decode cX9_about 86 = .ok (.ireturn, 1) := by decide +kernel
theorem dX9_about_87 : decode cX9_about 87 = .ok (.iconst (-1), 1) := by decide +kernel
theorem dX9_about_88 : decode cX9_about 88 = .ok (.ireturn, 1) := by decide +kernel
theorem dX9_sees_0 : decode cX9_sees 0 = .ok (.iconst 4, 1) := by decide +kernel
theorem dX9_sees_1 : decode cX9_sees 1 = .ok (.iload_n 1, 1) := by decide +kernel
theorem dX9_sees_2 : decode cX9_sees 2 = .ok (.iconst 3, 1) := by decide +kernel
theorem dX9_sees_3 : decode cX9_sees 3 = .ok (.irem, 1) := by decide +kernel
theorem dX9_sees_4 : decode cX9_sees 4 = .ok (.imul, 1) := by decide +kernel
theorem dX9_sees_5 : decode cX9_sees 5 = .ok (.aload_n 0, 1) := by decide +kernel
theorem dX9_sees_6 : decode cX9_sees 6 = .ok (.getfield 22, 3) := by decide +kernel
theorem dX9_sees_9 : decode cX9_sees 9 = .ok (.iload_n 2, 1) := by decide +kernel
theorem dX9_sees_10 : decode cX9_sees 10 = .ok (.iaload, 1) := by decide +kernel
theorem dX9_sees_11 : decode cX9_sees 11 = .ok (.iadd, 1) := by decide +kernel
theorem dX9_sees_12 : decode cX9_sees 12 = .ok (.istore_n 3, 1) := by decide +kernel
theorem dX9_sees_13 : decode cX9_sees 13 = .ok (.aload_n 0, 1) := by decide +kernel
theorem dX9_sees_14 : decode cX9_sees 14 = .ok (.getfield 28, 3) := by decide +kernel
theorem dX9_sees_17 : decode cX9_sees 17 = .ok (.iload_n 2, 1) := by decide +kernel
theorem dX9_sees_18 : decode cX9_sees 18 = .ok (.baload, 1) := by decide +kernel
theorem dX9_sees_19 : decode cX9_sees 19 = .ok (.ifCond .ne 56, 3) := by decide +kernel
theorem dX9_sees_22 : decode cX9_sees 22 = .ok (.aload_n 0, 1) := by decide +kernel
theorem dX9_sees_23 : decode cX9_sees 23 = .ok (.getfield 86, 3) := by decide +kernel
theorem dX9_sees_26 : decode cX9_sees 26 = .ok (.aload_n 0, 1) := by decide +kernel
theorem dX9_sees_27 : decode cX9_sees 27 = .ok (.getfield 13, 3) := by decide +kernel
theorem dX9_sees_30 : decode cX9_sees 30 = .ok (.iload_n 3, 1) := by decide +kernel
theorem dX9_sees_31 : decode cX9_sees 31 = .ok (.iaload, 1) := by decide +kernel
theorem dX9_sees_32 : decode cX9_sees 32 = .ok (.if_icmp .lt 43, 3) := by decide +kernel
theorem dX9_sees_35 : decode cX9_sees 35 = .ok (.aload_n 0, 1) := by decide +kernel
theorem dX9_sees_36 : decode cX9_sees 36 = .ok (.getfield 86, 3) := by decide +kernel
theorem dX9_sees_39 : decode cX9_sees 39 = .ok (.aload_n 0, 1) := by decide +kernel
theorem dX9_sees_40 : decode cX9_sees 40 = .ok (.getfield 16, 3) := by decide +kernel
theorem dX9_sees_43 : decode cX9_sees 43 = .ok (.iload_n 3, 1) := by decide +kernel
theorem dX9_sees_44 : decode cX9_sees 44 = .ok (.iaload, 1) := by decide +kernel
theorem dX9_sees_45 : decode cX9_sees 45 = .ok (.if_icmp .ge 30, 3) := by decide +kernel
theorem dX9_sees_48 : decode cX9_sees 48 = .ok (.aload_n 0, 1) := by decide +kernel
theorem dX9_sees_49 : decode cX9_sees 49 = .ok (.getfield 19, 3) := by decide +kernel
theorem dX9_sees_52 : decode cX9_sees 52 = .ok (.iload_n 2, 1) := by decide +kernel
theorem dX9_sees_53 : decode cX9_sees 53 = .ok (.iaload, 1) := by decide +kernel
theorem dX9_sees_54 : decode cX9_sees 54 = .ok (.iconst 1, 1) := by decide +kernel
theorem dX9_sees_55 : decode cX9_sees 55 = .ok (.if_icmp .ne 16, 3) := by decide +kernel
theorem dX9_sees_58 : decode cX9_sees 58 = .ok (.aload_n 0, 1) := by decide +kernel
theorem dX9_sees_59 : decode cX9_sees 59 = .ok (.getfield 86, 3) := by decide +kernel
theorem dX9_sees_62 : decode cX9_sees 62 = .ok (.aload_n 0, 1) := by decide +kernel
theorem dX9_sees_63 : decode cX9_sees 63 = .ok (.getfield 25, 3) := by decide +kernel
theorem dX9_sees_66 : decode cX9_sees 66 = .ok (.iload_n 2, 1) := by decide +kernel
theorem dX9_sees_67 : decode cX9_sees 67 = .ok (.iaload, 1) := by decide +kernel
theorem dX9_sees_68 : decode cX9_sees 68 = .ok (.if_icmp .lt 7, 3) := by decide +kernel
theorem dX9_sees_71 : decode cX9_sees 71 = .ok (.iconst 1, 1) := by decide +kernel
theorem dX9_sees_72 : decode cX9_sees 72 = .ok (.goto 4, 3) := by decide +kernel
theorem dX9_sees_75 : decode cX9_sees 75 = .ok (.iconst 0, 1) := by decide +kernel
theorem dX9_sees_76 : decode cX9_sees 76 = .ok (.ireturn, 1) := by decide +kernel
set_option maxRecDepth 20000 in
theorem ggX9_may_X9_isBidder : GoodIn wsX9_may wsX9_isBidder := goodIn_r _ [8, 9, 10, 7, 11] (by decide +kernel) (by decide +kernel)
set_option maxRecDepth 20000 in
theorem gX9_may_X9_isBidder : GoodIn wsX9_may (va_wsS RX9 113 yX9_isBidder wsX9_isBidder) := goodIn_app (goodIn_of _ (by decide +kernel)) ggX9_may_X9_isBidder
set_option maxRecDepth 20000 in
theorem ggX9_may_X9_isPaper : GoodIn wsX9_may wsX9_isPaper := goodIn_r _ [15, 16, 9, 10, 7, 11, 27, 28, 29, 30, 31, 32, 33, 34, 35, 36, 37, 38, 39, 40, 41, 42, 43, 44, 45, 46, 47, 48, 49, 50, 51, 52, 53, 54, 55, 56, 57, 58, 59] (by decide +kernel) (by decide +kernel)
set_option maxRecDepth 20000 in
theorem gX9_may_X9_isPaper : GoodIn wsX9_may (wsV RX9 97 RX9 yX9_isPaper wsX9_isPaper) := goodIn_app (goodIn_of _ (by decide +kernel)) ggX9_may_X9_isPaper
set_option maxRecDepth 20000 in
theorem ggX9_may_X9_sees : GoodIn wsX9_may wsX9_sees := goodIn_r _ [20, 21, 22, 23, 24, 25, 2, 26, 27, 28, 29, 30, 31, 32, 33, 34, 35, 36, 37, 38, 39, 40, 41, 42, 43, 44, 45, 46, 47, 48, 49, 50, 51, 52, 53, 54, 55, 56, 57, 58, 59] (by decide +kernel) (by decide +kernel)
set_option maxRecDepth 20000 in
theorem gX9_may_X9_sees : GoodIn wsX9_may (wsV RX9 124 RX9 yX9_sees wsX9_sees) := goodIn_app (goodIn_of _ (by decide +kernel)) ggX9_may_X9_sees
theorem dX9_may_0 : decode cX9_may 0 = .ok (.iload_n 1, 1) := by decide +kernel
theorem dX9_may_1 : decode cX9_may 1 = .ok (.invokestatic 113, 3) := by decide +kernel
theorem dX9_may_4 : decode cX9_may 4 = .ok (.ifCond .eq 11, 3) := by decide +kernel
theorem dX9_may_7 : decode cX9_may 7 = .ok (.aload_n 0, 1) := by decide +kernel
theorem dX9_may_8 : decode cX9_may 8 = .ok (.iload_n 2, 1) := by decide +kernel
theorem dX9_may_9 : decode cX9_may 9 = .ok (.invokevirtual 97, 3) := by decide +kernel
theorem dX9_may_12 : decode cX9_may 12 = .ok (.ifCond .ne 5, 3) := by decide +kernel
theorem dX9_may_15 : decode cX9_may 15 = .ok (.iconst (-1), 1) := by decide +kernel
theorem dX9_may_16 : decode cX9_may 16 = .ok (.ireturn, 1) := by decide +kernel
theorem dX9_may_17 : decode cX9_may 17 = .ok (.aload_n 0, 1) := by decide +kernel
theorem dX9_may_18 : decode cX9_may 18 = .ok (.dup, 1) := by decide +kernel
theorem dX9_may_19 : decode cX9_may 19 = .ok (.getfield 116, 3) := by decide +kernel
theorem dX9_may_22 : decode cX9_may 22 = .ok (.aload_n 0, 1) := by decide +kernel
theorem dX9_may_23 : decode cX9_may 23 = .ok (.getfield 19, 3) := by decide +kernel
theorem dX9_may_26 : decode cX9_may 26 = .ok (.iload_n 2, 1) := by decide +kernel
theorem dX9_may_27 : decode cX9_may 27 = .ok (.iaload, 1) := by decide +kernel
theorem dX9_may_28 : decode cX9_may 28 = .ok (.ifCond .ne 7, 3) := by decide +kernel
theorem dX9_may_31 : decode cX9_may 31 = .ok (.lconst 1, 1) := by decide +kernel
theorem dX9_may_32 : decode cX9_may 32 = .ok (.goto 22, 3) := by decide +kernel
theorem dX9_may_35 : decode cX9_may 35 = .ok (.aload_n 0, 1) := by decide +kernel
theorem dX9_may_36 : decode cX9_may 36 = .ok (.getfield 19, 3) := by decide +kernel
theorem dX9_may_39 : decode cX9_may 39 = .ok (.iload_n 2, 1) := by decide +kernel
theorem dX9_may_40 : decode cX9_may 40 = .ok (.iaload, 1) := by decide +kernel
theorem dX9_may_41 : decode cX9_may 41 = .ok (.iconst 1, 1) := by decide +kernel
theorem dX9_may_42 : decode cX9_may 42 = .ok (.if_icmp .ne 9, 3) := by decide +kernel
theorem dX9_may_45 : decode cX9_may 45 = .ok (.ldc2_w 120, 3) := by decide +kernel
theorem dX9_may_48 : decode cX9_may 48 = .ok (.goto 6, 3) := by decide +kernel
theorem dX9_may_51 : decode cX9_may 51 = .ok (.ldc2_w 122, 3) := by decide +kernel
theorem dX9_may_54 : decode cX9_may 54 = .ok (.ladd, 1) := by decide +kernel
theorem dX9_may_55 : decode cX9_may 55 = .ok (.putfield 116, 3) := by decide +kernel
theorem dX9_may_58 : decode cX9_may 58 = .ok (.aload_n 0, 1) := by decide +kernel
theorem dX9_may_59 : decode cX9_may 59 = .ok (.iload_n 1, 1) := by decide +kernel
theorem dX9_may_60 : decode cX9_may 60 = .ok (.iload_n 2, 1) := by decide +kernel
theorem dX9_may_61 : decode cX9_may 61 = .ok (.invokevirtual 124, 3) := by decide +kernel
theorem dX9_may_64 : decode cX9_may 64 = .ok (.ifCond .eq 7, 3) := by decide +kernel
theorem dX9_may_67 : decode cX9_may 67 = .ok (.iconst 1, 1) := by decide +kernel
theorem dX9_may_68 : decode cX9_may 68 = .ok (.goto 4, 3) := by decide +kernel

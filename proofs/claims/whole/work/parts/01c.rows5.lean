theorem dX0_init_0 : decode cX0_init 0 = .ok (.aload_n 0, 1) := by decide +kernel
theorem dX0_init_1 : decode cX0_init 1 = .ok (.invokespecial 3, 3) := by decide +kernel
theorem dX0_init_4 : decode cX0_init 4 = .ok (.aload_n 0, 1) := by decide +kernel
theorem dX0_init_5 : decode cX0_init 5 = .ok (.bipush 30, 2) := by decide +kernel
theorem dX0_init_7 : decode cX0_init 7 = .ok (.newarray .long, 2) := by decide +kernel
theorem dX0_init_9 : decode cX0_init 9 = .ok (.putfield 9, 3) := by decide +kernel
theorem dX0_init_12 : decode cX0_init 12 = .ok (.aload_n 0, 1) := by decide +kernel
theorem dX0_init_13 : decode cX0_init 13 = .ok (.bipush 6, 2) := by decide +kernel
theorem dX0_init_15 : decode cX0_init 15 = .ok (.newarray .long, 2) := by decide +kernel
theorem dX0_init_17 : decode cX0_init 17 = .ok (.putfield 15, 3) := by decide +kernel
theorem dX0_init_20 : decode cX0_init 20 = .ok (.aload_n 0, 1) := by decide +kernel
theorem dX0_init_21 : decode cX0_init 21 = .ok (.bipush 6, 2) := by decide +kernel
theorem dX0_init_23 : decode cX0_init 23 = .ok (.newarray .long, 2) := by decide +kernel
theorem dX0_init_25 : decode cX0_init 25 = .ok (.putfield 18, 3) := by decide +kernel
theorem dX0_init_28 : decode cX0_init 28 = .ok (.aload_n 0, 1) := by decide +kernel
theorem dX0_init_29 : decode cX0_init 29 = .ok (.iconst 3, 1) := by decide +kernel
theorem dX0_init_30 : decode cX0_init 30 = .ok (.newarray .long, 2) := by decide +kernel
theorem dX0_init_32 : decode cX0_init 32 = .ok (.putfield 21, 3) := by decide +kernel
theorem dX0_init_35 : decode cX0_init 35 = .ok (.aload_n 0, 1) := by decide +kernel
theorem dX0_init_36 : decode cX0_init 36 = .ok (.bipush 64, 2) := by decide +kernel
theorem dX0_init_38 : decode cX0_init 38 = .ok (.newarray .long, 2) := by decide +kernel
theorem dX0_init_40 : decode cX0_init 40 = .ok (.putfield 24, 3) := by decide +kernel
theorem dX0_init_43 : decode cX0_init 43 = .ok (.aload_n 0, 1) := by decide +kernel
theorem dX0_init_44 : decode cX0_init 44 = .ok (.aload_n 1, 1) := by decide +kernel
theorem dX0_init_45 : decode cX0_init 45 = .ok (.putfield 27, 3) := by decide +kernel
theorem dX0_init_48 : decode cX0_init 48 = .ok (.return_, 1) := by decide +kernel
set_option maxRecDepth 20000 in
theorem ggX0_wordOut_X0_simulate : GoodIn wsX0_wordOut wsX0_simulate := goodIn_r _ [5, 6, 7, 8, 9, 10, 4, 11, 12, 13, 14, 15, 16, 17, 18, 19, 20, 21, 22, 23, 24, 25, 26, 27, 28, 29, 30, 31, 32, 33, 34, 35, 36, 37, 38, 46, 47, 48, 49, 50, 51, 52, 53, 54, 55, 56, 57, 58, 59, 60, 61] (by decide +kernel) (by decide +kernel)
set_option maxRecDepth 20000 in
theorem gX0_wordOut_X0_simulate : GoodIn wsX0_wordOut (wsV RX0 31 RX0 yX0_simulate wsX0_simulate) := goodIn_app (goodIn_of _ (by decide +kernel)) ggX0_wordOut_X0_simulate
set_option maxRecDepth 20000 in
theorem ggX0_wordOut_X0_wordInColumns : GoodIn wsX0_wordOut wsX0_wordInColumns := goodIn_r _ [42, 6, 8, 43, 44, 45, 46, 47, 48, 49, 50, 51, 52, 53, 54, 55, 56, 57, 58, 59, 60, 61] (by decide +kernel) (by decide +kernel)
set_option maxRecDepth 20000 in
theorem gX0_wordOut_X0_wordInColumns : GoodIn wsX0_wordOut (wsV RX0 35 RX0 yX0_wordInColumns wsX0_wordInColumns) := goodIn_app (goodIn_of _ (by decide +kernel)) ggX0_wordOut_X0_wordInColumns
theorem dX0_wordOut_0 : decode cX0_wordOut 0 = .ok (.aload_n 0, 1) := by decide +kernel
theorem dX0_wordOut_1 : decode cX0_wordOut 1 = .ok (.iload_n 2, 1) := by decide +kernel
theorem dX0_wordOut_2 : decode cX0_wordOut 2 = .ok (.invokevirtual 31, 3) := by decide +kernel
theorem dX0_wordOut_5 : decode cX0_wordOut 5 = .ok (.aload_n 0, 1) := by decide +kernel
theorem dX0_wordOut_6 : decode cX0_wordOut 6 = .ok (.iload_n 1, 1) := by decide +kernel
theorem dX0_wordOut_7 : decode cX0_wordOut 7 = .ok (.invokevirtual 35, 3) := by decide +kernel
theorem dX0_wordOut_10 : decode cX0_wordOut 10 = .ok (.ireturn, 1) := by decide +kernel
set_option maxRecDepth 20000 in
theorem ggX0_isInCode_X0_columnOfBit : GoodIn wsX0_isInCode wsX0_columnOfBit := goodIn_r _ [5] (by decide +kernel) (by decide +kernel)
set_option maxRecDepth 20000 in
theorem gX0_isInCode_X0_columnOfBit : GoodIn wsX0_isInCode (va_wsS RX0 39 yX0_columnOfBit wsX0_columnOfBit) := goodIn_app (goodIn_of _ (by decide +kernel)) ggX0_isInCode_X0_columnOfBit
set_option maxRecDepth 20000 in
theorem ggX0_isInCode_X0_inCode : GoodIn wsX0_isInCode wsX0_inCode := goodIn_r _ [9, 10, 11, 12, 13, 14, 4, 15, 1, 16, 17, 18, 19, 20, 21, 22, 23, 24, 25, 26, 27, 28, 2, 3, 5, 29, 30, 31, 32, 33, 34, 35, 36, 37, 38, 39, 40, 41, 42, 43, 44, 45, 46, 47, 48, 49, 50, 51, 52] (by decide +kernel) (by decide +kernel)
set_option maxRecDepth 20000 in
theorem gX0_isInCode_X0_inCode : GoodIn wsX0_isInCode (wsV RX0 43 RX0 yX0_inCode wsX0_inCode) := goodIn_app (goodIn_of _ (by decide +kernel)) ggX0_isInCode_X0_inCode
theorem dX0_isInCode_0 : decode cX0_isInCode 0 = .ok (.iconst 0, 1) := by decide +kernel
theorem dX0_isInCode_1 : decode cX0_isInCode 1 = .ok (.istore_n 2, 1) := by decide +kernel
theorem dX0_isInCode_2 : decode cX0_isInCode 2 = .ok (.iload_n 2, 1) := by decide +kernel
theorem dX0_isInCode_3 : decode cX0_isInCode 3 = .ok (.bipush 6, 2) := by decide +kernel
theorem dX0_isInCode_5 : decode cX0_isInCode 5 = .ok (.if_icmp .ge 20, 3) := by decide +kernel
theorem dX0_isInCode_8 : decode cX0_isInCode 8 = .ok (.aload_n 0, 1) := by decide +kernel
theorem dX0_isInCode_9 : decode cX0_isInCode 9 = .ok (.getfield 15, 3) := by decide +kernel
theorem dX0_isInCode_12 : decode cX0_isInCode 12 = .ok (.iload_n 2, 1) := by decide +kernel
theorem dX0_isInCode_13 : decode cX0_isInCode 13 = .ok (.iload_n 1, 1) := by decide +kernel
theorem dX0_isInCode_14 : decode cX0_isInCode 14 = .ok (.iload_n 2, 1) := by decide +kernel
theorem dX0_isInCode_15 : decode cX0_isInCode 15 = .ok (.invokestatic 39, 3) := by decide +kernel
theorem dX0_isInCode_18 : decode cX0_isInCode 18 = .ok (.lastore, 1) := by decide +kernel
theorem dX0_isInCode_19 : decode cX0_isInCode 19 = .ok (.iinc 2 1, 3) := by decide +kernel
theorem dX0_isInCode_22 : decode cX0_isInCode 22 = .ok (.goto (-20), 3) := by decide +kernel
theorem dX0_isInCode_25 : decode cX0_isInCode 25 = .ok (.aload_n 0, 1) := by decide +kernel
theorem dX0_isInCode_26 : decode cX0_isInCode 26 = .ok (.invokevirtual 43, 3) := by decide +kernel
theorem dX0_isInCode_29 : decode cX0_isInCode 29 = .ok (.lconst 0, 1) := by decide +kernel
theorem dX0_isInCode_30 : decode cX0_isInCode 30 = .ok (.lcmp, 1) := by decide +kernel
theorem dX0_isInCode_31 : decode cX0_isInCode 31 = .ok (.ifCond .eq 7, 3) := by decide +kernel
theorem dX0_isInCode_34 : decode cX0_isInCode 34 = .ok (.iconst 1, 1) := by decide +kernel
theorem dX0_isInCode_35 : decode cX0_isInCode 35 = .ok (.goto 4, 3) := by decide +kernel
theorem dX0_isInCode_38 : decode cX0_isInCode 38 = .ok (.iconst 0, 1) := by decide +kernel
theorem dX0_isInCode_39 : decode cX0_isInCode 39 = .ok (.ireturn, 1) := by decide +kernel
set_option maxRecDepth 20000 in
theorem ggX0_isDisjoint_X0_simulate : GoodIn wsX0_isDisjoint wsX0_simulate := goodIn_r _ [6, 1, 7, 8, 9, 10, 5, 11, 12, 13, 14, 15, 16, 17, 18, 19, 20, 21, 22, 23, 24, 25, 26, 27, 28, 29, 30, 31, 32, 33, 34, 35, 36, 37, 38, 73, 74, 75, 76, 77, 78, 79, 80, 81, 82, 83, 84, 85, 86, 87, 88] (by decide +kernel) (by decide +kernel)
set_option maxRecDepth 20000 in
theorem gX0_isDisjoint_X0_simulate : GoodIn wsX0_isDisjoint (wsV RX0 31 RX0 yX0_simulate wsX0_simulate) := goodIn_app (goodIn_of _ (by decide +kernel)) ggX0_isDisjoint_X0_simulate
set_option maxRecDepth 20000 in
theorem ggX0_isDisjoint_X0_inCode : GoodIn wsX0_isDisjoint wsX0_inCode := goodIn_r _ [42, 1, 17, 43, 44, 45, 5, 46, 8, 47, 48, 49, 50, 51, 52, 53, 54, 55, 56, 57, 58, 59, 9, 10, 11, 60, 61, 62, 63, 64, 65, 66, 67, 73, 74, 75, 76, 77, 78, 79, 80, 81, 82, 83, 84, 85, 86, 87, 88] (by decide +kernel) (by decide +kernel)
set_option maxRecDepth 20000 in
theorem gX0_isDisjoint_X0_inCode : GoodIn wsX0_isDisjoint (wsV RX0 43 RX0 yX0_inCode wsX0_inCode) := goodIn_app (goodIn_of _ (by decide +kernel)) ggX0_isDisjoint_X0_inCode
set_option maxRecDepth 20000 in
theorem ggX0_isDisjoint_X1_words : GoodIn wsX0_isDisjoint wsX1_words := goodIn_r _ [70, 71, 72, 79, 80, 81, 82, 83, 84, 85, 86, 87, 88] (by decide +kernel) (by decide +kernel)
set_option maxRecDepth 20000 in
theorem gX0_isDisjoint_X1_words_n47 : GoodIn wsX0_isDisjoint (wsX1_words) := ggX0_isDisjoint_X1_words
theorem dX0_isDisjoint_0 : decode cX0_isDisjoint 0 = .ok (.aload_n 0, 1) := by decide +kernel
theorem dX0_isDisjoint_1 : decode cX0_isDisjoint 1 = .ok (.iconst (-1), 1) := by decide +kernel
theorem dX0_isDisjoint_2 : decode cX0_isDisjoint 2 = .ok (.invokevirtual 31, 3) := by decide +kernel
theorem dX0_isDisjoint_5 : decode cX0_isDisjoint 5 = .ok (.aload_n 0, 1) := by decide +kernel
theorem dX0_isDisjoint_6 : decode cX0_isDisjoint 6 = .ok (.invokevirtual 43, 3) := by decide +kernel
theorem dX0_isDisjoint_9 : decode cX0_isDisjoint 9 = .ok (.aload_n 0, 1) := by decide +kernel
theorem dX0_isDisjoint_10 : decode cX0_isDisjoint 10 = .ok (.getfield 27, 3) := by decide +kernel
theorem dX0_isDisjoint_13 : decode cX0_isDisjoint 13 = .ok (.invokevirtual 47, 3) := by decide +kernel
theorem dX0_isDisjoint_16 : decode cX0_isDisjoint 16 = .ok (.land, 1) := by decide +kernel
theorem dX0_isDisjoint_17 : decode cX0_isDisjoint 17 = .ok (.aload_n 0, 1) := by decide +kernel
theorem dX0_isDisjoint_18 : decode cX0_isDisjoint 18 = .ok (.getfield 27, 3) := by decide +kernel
theorem dX0_isDisjoint_21 : decode cX0_isDisjoint 21 = .ok (.getfield 52, 3) := by decide +kernel
theorem dX0_isDisjoint_24 : decode cX0_isDisjoint 24 = .ok (.lcmp, 1) := by decide +kernel
theorem dX0_isDisjoint_25 : decode cX0_isDisjoint 25 = .ok (.ifCond .ne 7, 3) := by decide +kernel
theorem dX0_isDisjoint_28 : decode cX0_isDisjoint 28 = .ok (.iconst 1, 1) := by decide +kernel
theorem dX0_isDisjoint_29 : decode cX0_isDisjoint 29 = .ok (.goto 4, 3) := by decide +kernel
theorem dX0_isDisjoint_32 : decode cX0_isDisjoint 32 = .ok (.iconst 0, 1) := by decide +kernel
theorem dX0_isDisjoint_33 : decode cX0_isDisjoint 33 = .ok (.ireturn, 1) := by decide +kernel
set_option maxRecDepth 20000 in
theorem ggX0_exposing_X0_simulate : GoodIn wsX0_exposing wsX0_simulate := goodIn_r _ [7, 1, 8, 9, 10, 11, 6, 12, 13, 14, 15, 16, 17, 2, 18, 19, 20, 21, 22, 23, 24, 25, 26, 27, 28, 29, 30, 31, 32, 33, 34, 35, 36, 37, 38, 68, 69, 70, 71, 72, 73, 74, 75, 76, 77, 78, 79, 80, 81, 82, 83] (by decide +kernel) (by decide +kernel)
set_option maxRecDepth 20000 in
theorem gX0_exposing_X0_simulate : GoodIn wsX0_exposing (wsV RX0 31 RX0 yX0_simulate wsX0_simulate) := goodIn_app (goodIn_of _ (by decide +kernel)) ggX0_exposing_X0_simulate
set_option maxRecDepth 20000 in
theorem ggX0_exposing_X0_inCode : GoodIn wsX0_exposing wsX0_inCode := goodIn_r _ [42, 1, 2, 43, 44, 45, 6, 46, 9, 47, 48, 49, 50, 51, 52, 53, 54, 55, 56, 57, 58, 59, 10, 11, 12, 60, 61, 62, 63, 64, 65, 66, 67, 68, 69, 70, 71, 72, 73, 74, 75, 76, 77, 78, 79, 80, 81, 82, 83] (by decide +kernel) (by decide +kernel)
set_option maxRecDepth 20000 in
theorem gX0_exposing_X0_inCode : GoodIn wsX0_exposing (wsV RX0 43 RX0 yX0_inCode wsX0_inCode) := goodIn_app (goodIn_of _ (by decide +kernel)) ggX0_exposing_X0_inCode
theorem dX0_exposing_0 : decode cX0_exposing 0 = .ok (.aload_n 0, 1) := by decide +kernel
theorem dX0_exposing_1 : decode cX0_exposing 1 = .ok (.iload_n 1, 1) := by decide +kernel
theorem dX0_exposing_2 : decode cX0_exposing 2 = .ok (.invokevirtual 31, 3) := by decide +kernel
theorem dX0_exposing_5 : decode cX0_exposing 5 = .ok (.aload_n 0, 1) := by decide +kernel
theorem dX0_exposing_6 : decode cX0_exposing 6 = .ok (.getfield 27, 3) := by decide +kernel
theorem dX0_exposing_9 : decode cX0_exposing 9 = .ok (.getfield 52, 3) := by decide +kernel
theorem dX0_exposing_12 : decode cX0_exposing 12 = .ok (.aload_n 0, 1) := by decide +kernel
theorem dX0_exposing_13 : decode cX0_exposing 13 = .ok (.invokevirtual 43, 3) := by decide +kernel
theorem dX0_exposing_16 : decode cX0_exposing 16 = .ok (.ldc2_w 56, 3) := by decide +kernel
theorem dX0_exposing_19 : decode cX0_exposing 19 = .ok (.lxor, 1) := by decide +kernel
theorem dX0_exposing_20 : decode cX0_exposing 20 = .ok (.land, 1) := by decide +kernel
theorem dX0_exposing_21 : decode cX0_exposing 21 = .ok (.lreturn, 1) := by decide +kernel
set_option maxRecDepth 20000 in
theorem ggX0_unsafe_X0_simulate : GoodIn wsX0_unsafe wsX0_simulate := goodIn_r _ [12, 7, 13, 1, 14, 15, 11, 16, 17, 18, 19, 20, 21, 22, 23, 24, 25, 26, 27, 28, 29, 30, 31, 32, 33, 34, 35, 36, 37, 38, 39, 40, 41, 42, 43, 73, 74, 75, 76, 77, 78, 79, 80, 81, 82, 83, 84, 85, 86, 87, 88] (by decide +kernel) (by decide +kernel)
set_option maxRecDepth 20000 in
theorem gX0_unsafe_X0_simulate : GoodIn wsX0_unsafe (wsV RX0 31 RX0 yX0_simulate wsX0_simulate) := goodIn_app (goodIn_of _ (by decide +kernel)) ggX0_unsafe_X0_simulate
set_option maxRecDepth 20000 in
theorem ggX0_unsafe_X0_inCode : GoodIn wsX0_unsafe wsX0_inCode := goodIn_r _ [47, 7, 22, 48, 49, 50, 11, 51, 1, 52, 53, 54, 55, 56, 57, 58, 59, 60, 61, 62, 63, 64, 14, 15, 16, 65, 66, 67, 68, 69, 70, 71, 72, 73, 74, 75, 76, 77, 78, 79, 80, 81, 82, 83, 84, 85, 86, 87, 88] (by decide +kernel) (by decide +kernel)
set_option maxRecDepth 20000 in
theorem gX0_unsafe_X0_inCode : GoodIn wsX0_unsafe (wsV RX0 43 RX0 yX0_inCode wsX0_inCode) := goodIn_app (goodIn_of _ (by decide +kernel)) ggX0_unsafe_X0_inCode
theorem dX0_unsafe_0 : decode cX0_unsafe 0 = .ok (.aload_n 0, 1) := by decide +kernel
theorem dX0_unsafe_1 : decode cX0_unsafe 1 = .ok (.iconst (-1), 1) := by decide +kernel
theorem dX0_unsafe_2 : decode cX0_unsafe 2 = .ok (.invokevirtual 31, 3) := by decide +kernel
theorem dX0_unsafe_5 : decode cX0_unsafe 5 = .ok (.aload_n 0, 1) := by decide +kernel
theorem dX0_unsafe_6 : decode cX0_unsafe 6 = .ok (.getfield 15, 3) := by decide +kernel
theorem dX0_unsafe_9 : decode cX0_unsafe 9 = .ok (.iconst 0, 1) := by decide +kernel
theorem dX0_unsafe_10 : decode cX0_unsafe 10 = .ok (.aload_n 0, 1) := by decide +kernel
theorem dX0_unsafe_11 : decode cX0_unsafe 11 = .ok (.getfield 18, 3) := by decide +kernel
theorem dX0_unsafe_14 : decode cX0_unsafe 14 = .ok (.iconst 0, 1) := by decide +kernel
theorem dX0_unsafe_15 : decode cX0_unsafe 15 = .ok (.bipush 6, 2) := by decide +kernel
theorem dX0_unsafe_17 : decode cX0_unsafe 17 = .ok (.invokestatic 58, 3) := by decide +kernel
theorem dX0_unsafe_20 : decode cX0_unsafe 20 = .ok (.aload_n 0, 1) := by decide +kernel
theorem dX0_unsafe_21 : decode cX0_unsafe 21 = .ok (.iload_n 1, 1) := by decide +kernel
theorem dX0_unsafe_22 : decode cX0_unsafe 22 = .ok (.invokevirtual 31, 3) := by decide +kernel
theorem dX0_unsafe_25 : decode cX0_unsafe 25 = .ok (.lconst 0, 1) := by decide +kernel
theorem dX0_unsafe_26 : decode cX0_unsafe 26 = .ok (.lstore_n 2, 1) := by decide +kernel
theorem dX0_unsafe_27 : decode cX0_unsafe 27 = .ok (.iconst 0, 1) := by decide +kernel
theorem dX0_unsafe_28 : decode cX0_unsafe 28 = .ok (.istore 4, 2) := by decide +kernel
theorem dX0_unsafe_30 : decode cX0_unsafe 30 = .ok (.iload 4, 2) := by decide +kernel
theorem dX0_unsafe_32 : decode cX0_unsafe 32 = .ok (.aload_n 0, 1) := by decide +kernel
theorem dX0_unsafe_33 : decode cX0_unsafe 33 = .ok (.getfield 27, 3) := by decide +kernel
theorem dX0_unsafe_36 : decode cX0_unsafe 36 = .ok (.getfield 64, 3) := by decide +kernel
theorem dX0_unsafe_39 : decode cX0_unsafe 39 = .ok (.if_icmp .ge 34, 3) := by decide +kernel
theorem dX0_unsafe_42 : decode cX0_unsafe 42 = .ok (.iload 4, 2) := by decide +kernel
theorem dX0_unsafe_44 : decode cX0_unsafe 44 = .ok (.bipush 6, 2) := by decide +kernel
theorem dX0_unsafe_46 : decode cX0_unsafe 46 = .ok (.if_icmp .ge 27, 3) := by decide +kernel
theorem dX0_unsafe_49 : decode cX0_unsafe 49 = .ok (.lload_n 2, 1) := by decide +kernel
theorem dX0_unsafe_50 : decode cX0_unsafe 50 = .ok (.aload_n 0, 1) := by decide +kernel
theorem dX0_unsafe_51 : decode cX0_unsafe 51 = .ok (.getfield 15, 3) := by decide +kernel
theorem dX0_unsafe_54 : decode cX0_unsafe 54 = .ok (.iload 4, 2) := by decide +kernel
theorem dX0_unsafe_56 : decode cX0_unsafe 56 = .ok (.laload, 1) := by decide +kernel
theorem dX0_unsafe_57 : decode cX0_unsafe 57 = .ok (.aload_n 0, 1) := by decide +kernel
theorem dX0_unsafe_58 : decode cX0_unsafe 58 = .ok (.getfield 18, 3) := by decide +kernel
theorem dX0_unsafe_61 : decode cX0_unsafe 61 = .ok (.iload 4, 2) := by decide +kernel
theorem dX0_unsafe_63 : decode cX0_unsafe 63 = .ok (.laload, 1) := by decide +kernel
theorem dX0_unsafe_64 : decode cX0_unsafe 64 = .ok (.lxor, 1) := by decide +kernel
theorem dX0_unsafe_65 : decode cX0_unsafe 65 = .ok (.lor, 1) := by decide +kernel
theorem dX0_unsafe_66 : decode cX0_unsafe 66 = .ok (.lstore_n 2, 1) := by decide +kernel
theorem dX0_unsafe_67 : decode cX0_unsafe 67 = .ok (.iinc 4 1, 3) := by decide +kernel
theorem dX0_unsafe_70 : decode cX0_unsafe 70 = .ok (.goto (-40), 3) := by decide +kernel
theorem dX0_unsafe_73 : decode cX0_unsafe 73 = .ok (.aload_n 0, 1) := by decide +kernel
theorem dX0_unsafe_74 : decode cX0_unsafe 74 = .ok (.getfield 27, 3) := by decide +kernel
theorem dX0_unsafe_77 : decode cX0_unsafe 77 = .ok (.getfield 52, 3) := by decide +kernel
theorem dX0_unsafe_80 : decode cX0_unsafe 80 = .ok (.lload_n 2, 1) := by decide +kernel
theorem dX0_unsafe_81 : decode cX0_unsafe 81 = .ok (.land, 1) := by decide +kernel
theorem dX0_unsafe_82 : decode cX0_unsafe 82 = .ok (.aload_n 0, 1) := by decide +kernel
theorem dX0_unsafe_83 : decode cX0_unsafe 83 = .ok (.invokevirtual 43, 3) := by decide +kernel
theorem dX0_unsafe_86 : decode cX0_unsafe 86 = .ok (.land, 1) := by decide +kernel
theorem dX0_unsafe_87 : decode cX0_unsafe 87 = .ok (.lreturn, 1) := by decide +kernel
set_option maxRecDepth 20000 in
theorem ggX0_normalOutputs_X0_simulate : GoodIn wsX0_normalOutputs wsX0_simulate := goodIn_r _ [6, 1, 7, 8, 9, 10, 5, 11, 12, 13, 14, 15, 16, 17, 18, 19, 20, 21, 22, 23, 24, 25, 26, 27, 28, 29, 30, 31, 32, 33, 34, 35, 36, 37, 38, 46, 47, 48, 49, 50, 51, 52, 53, 54, 55, 56, 57, 58, 59, 60, 61] (by decide +kernel) (by decide +kernel)
set_option maxRecDepth 20000 in
theorem gX0_normalOutputs_X0_simulate : GoodIn wsX0_normalOutputs (wsV RX0 31 RX0 yX0_simulate wsX0_simulate) := goodIn_app (goodIn_of _ (by decide +kernel)) ggX0_normalOutputs_X0_simulate
set_option maxRecDepth 20000 in
theorem ggX0_normalOutputs_X5_bit : GoodIn wsX0_normalOutputs wsX5_bit := goodIn_r _ [41] (by decide +kernel) (by decide +kernel)
set_option maxRecDepth 20000 in
theorem gX0_normalOutputs_X5_bit_n68 : GoodIn wsX0_normalOutputs (wsX5_bit) := ggX0_normalOutputs_X5_bit
set_option maxRecDepth 20000 in
theorem ggX0_normalOutputs_X0_wordInColumns : GoodIn wsX0_normalOutputs wsX0_wordInColumns := goodIn_r _ [45, 1, 8, 39, 40, 41, 46, 47, 48, 49, 50, 51, 52, 53, 54, 55, 56, 57, 58, 59, 60, 61] (by decide +kernel) (by decide +kernel)
set_option maxRecDepth 20000 in
theorem gX0_normalOutputs_X0_wordInColumns : GoodIn wsX0_normalOutputs (wsV RX0 35 RX0 yX0_wordInColumns wsX0_wordInColumns) := goodIn_app (goodIn_of _ (by decide +kernel)) ggX0_normalOutputs_X0_wordInColumns
theorem dX0_normalOutputs_0 : decode cX0_normalOutputs 0 = .ok (.aload_n 0, 1) := by decide +kernel
theorem dX0_normalOutputs_1 : decode cX0_normalOutputs 1 = .ok (.iconst (-1), 1) := by decide +kernel
theorem dX0_normalOutputs_2 : decode cX0_normalOutputs 2 = .ok (.invokevirtual 31, 3) := by decide +kernel
theorem dX0_normalOutputs_5 : decode cX0_normalOutputs 5 = .ok (.lconst 0, 1) := by decide +kernel
theorem dX0_normalOutputs_6 : decode cX0_normalOutputs 6 = .ok (.lstore_n 1, 1) := by decide +kernel
theorem dX0_normalOutputs_7 : decode cX0_normalOutputs 7 = .ok (.iconst 0, 1) := by decide +kernel
theorem dX0_normalOutputs_8 : decode cX0_normalOutputs 8 = .ok (.istore_n 3, 1) := by decide +kernel
theorem dX0_normalOutputs_9 : decode cX0_normalOutputs 9 = .ok (.iload_n 3, 1) := by decide +kernel
theorem dX0_normalOutputs_10 : decode cX0_normalOutputs 10 = .ok (.bipush 64, 2) := by decide +kernel
theorem dX0_normalOutputs_12 : decode cX0_normalOutputs 12 = .ok (.if_icmp .ge 34, 3) := by decide +kernel
theorem dX0_normalOutputs_15 : decode cX0_normalOutputs 15 = .ok (.aload_n 0, 1) := by decide +kernel
theorem dX0_normalOutputs_16 : decode cX0_normalOutputs 16 = .ok (.getfield 27, 3) := by decide +kernel
theorem dX0_normalOutputs_19 : decode cX0_normalOutputs 19 = .ok (.getfield 52, 3) := by decide +kernel
theorem dX0_normalOutputs_22 : decode cX0_normalOutputs 22 = .ok (.iload_n 3, 1) := by decide +kernel
theorem dX0_normalOutputs_23 : decode cX0_normalOutputs 23 = .ok (.invokestatic 68, 3) := by decide +kernel
theorem dX0_normalOutputs_26 : decode cX0_normalOutputs 26 = .ok (.iconst 1, 1) := by decide +kernel
theorem dX0_normalOutputs_27 : decode cX0_normalOutputs 27 = .ok (.if_icmp .ne 13, 3) := by decide +kernel
theorem dX0_normalOutputs_30 : decode cX0_normalOutputs 30 = .ok (.lload_n 1, 1) := by decide +kernel
theorem dX0_normalOutputs_31 : decode cX0_normalOutputs 31 = .ok (.lconst 1, 1) := by decide +kernel
theorem dX0_normalOutputs_32 : decode cX0_normalOutputs 32 = .ok (.aload_n 0, 1) := by decide +kernel
theorem dX0_normalOutputs_33 : decode cX0_normalOutputs 33 = .ok (.iload_n 3, 1) := by decide +kernel
theorem dX0_normalOutputs_34 : decode cX0_normalOutputs 34 = .ok (.invokevirtual 35, 3) := by decide +kernel
theorem dX0_normalOutputs_37 : decode cX0_normalOutputs 37 = .ok (.lshl, 1) := by decide +kernel
theorem dX0_normalOutputs_38 : decode cX0_normalOutputs 38 = .ok (.lor, 1) := by decide +kernel
theorem dX0_normalOutputs_39 : decode cX0_normalOutputs 39 = .ok (.lstore_n 1, 1) := by decide +kernel
theorem dX0_normalOutputs_40 : decode cX0_normalOutputs 40 = .ok (.iinc 3 1, 3) := by decide +kernel
theorem dX0_normalOutputs_43 : decode cX0_normalOutputs 43 = .ok (.goto (-34), 3) := by decide +kernel
theorem dX0_normalOutputs_46 : decode cX0_normalOutputs 46 = .ok (.lload_n 1, 1) := by decide +kernel
theorem dX0_normalOutputs_47 : decode cX0_normalOutputs 47 = .ok (.lreturn, 1) := by decide +kernel
set_option maxRecDepth 20000 in
theorem ggX0_greedyWord_X0_collectExposed : GoodIn wsX0_greedyWord wsX0_collectExposed := goodIn_r _ [8, 2, 1, 9, 10, 11, 12, 13, 14, 15, 16, 7, 17, 3, 18, 19, 20, 21, 22, 23, 24, 25, 26, 27, 28, 29, 30, 31, 32, 33, 34, 35, 36, 37, 38, 39, 40, 41, 42, 43, 44, 45, 46, 47, 48, 49, 50, 51, 52, 53, 54, 55, 56, 57, 58, 59, 60, 61, 62, 63, 64, 65, 66, 67, 68, 69, 70, 71, 72, 73, 74, 75, 76, 77, 78, 79, 80, 81, 82, 83, 84, 85, 86, 87, 99, 100, 101, 102, 103, 104, 105, 106, 107, 108, 109, 110, 111, 112, 113, 114] (by decide +kernel) (by decide +kernel)
set_option maxRecDepth 20000 in
theorem gX0_greedyWord_X0_collectExposed : GoodIn wsX0_greedyWord (wsV RX0 72 RX0 yX0_collectExposed wsX0_collectExposed) := goodIn_app (goodIn_of _ (by decide +kernel)) ggX0_greedyWord_X0_collectExposed
set_option maxRecDepth 20000 in
theorem ggX0_greedyWord_X1_faults : GoodIn wsX0_greedyWord wsX1_faults := goodIn_r _ [12, 13, 105, 106, 107, 108, 109, 110, 111, 112, 113, 114] (by decide +kernel) (by decide +kernel)
set_option maxRecDepth 20000 in
theorem gX0_greedyWord_X1_faults_n75 : GoodIn wsX0_greedyWord (wsX1_faults) := ggX0_greedyWord_X1_faults
set_option maxRecDepth 20000 in
theorem ggX0_greedyWord_X0_bestWord : GoodIn wsX0_greedyWord wsX0_bestWord := goodIn_r _ [91, 2, 92, 93, 94, 95, 96, 97, 98, 99, 100, 101, 102, 103, 104] (by decide +kernel) (by decide +kernel)
set_option maxRecDepth 20000 in
theorem gX0_greedyWord_X0_bestWord : GoodIn wsX0_greedyWord (wsV RX0 79 RX0 yX0_bestWord wsX0_bestWord) := goodIn_app (goodIn_of _ (by decide +kernel)) ggX0_greedyWord_X0_bestWord
theorem dX0_greedyWord_0 : decode cX0_greedyWord 0 = .ok (.aload_n 0, 1) := by decide +kernel
theorem dX0_greedyWord_1 : decode cX0_greedyWord 1 = .ok (.invokevirtual 72, 3) := by decide +kernel
theorem dX0_greedyWord_4 : decode cX0_greedyWord 4 = .ok (.lstore_n 2, 1) := by decide +kernel
theorem dX0_greedyWord_5 : decode cX0_greedyWord 5 = .ok (.iconst 0, 1) := by decide +kernel
theorem dX0_greedyWord_6 : decode cX0_greedyWord 6 = .ok (.istore 4, 2) := by decide +kernel
theorem dX0_greedyWord_8 : decode cX0_greedyWord 8 = .ok (.iload 4, 2) := by decide +kernel
theorem dX0_greedyWord_10 : decode cX0_greedyWord 10 = .ok (.aload_n 0, 1) := by decide +kernel
theorem dX0_greedyWord_11 : decode cX0_greedyWord 11 = .ok (.getfield 27, 3) := by decide +kernel
theorem dX0_greedyWord_14 : decode cX0_greedyWord 14 = .ok (.invokevirtual 75, 3) := by decide +kernel
theorem dX0_greedyWord_17 : decode cX0_greedyWord 17 = .ok (.if_icmp .ge 57, 3) := by decide +kernel
theorem dX0_greedyWord_20 : decode cX0_greedyWord 20 = .ok (.lload_n 2, 1) := by decide +kernel
theorem dX0_greedyWord_21 : decode cX0_greedyWord 21 = .ok (.lconst 0, 1) := by decide +kernel
theorem dX0_greedyWord_22 : decode cX0_greedyWord 22 = .ok (.lcmp, 1) := by decide +kernel
theorem dX0_greedyWord_23 : decode cX0_greedyWord 23 = .ok (.ifCond .eq 51, 3) := by decide +kernel
theorem dX0_greedyWord_26 : decode cX0_greedyWord 26 = .ok (.aload_n 0, 1) := by decide +kernel
theorem dX0_greedyWord_27 : decode cX0_greedyWord 27 = .ok (.lload_n 2, 1) := by decide +kernel
theorem dX0_greedyWord_28 : decode cX0_greedyWord 28 = .ok (.invokevirtual 79, 3) := by decide +kernel
theorem dX0_greedyWord_31 : decode cX0_greedyWord 31 = .ok (.istore 5, 2) := by decide +kernel
theorem dX0_greedyWord_33 : decode cX0_greedyWord 33 = .ok (.iload 4, 2) := by decide +kernel
theorem dX0_greedyWord_35 : decode cX0_greedyWord 35 = .ok (.iload_n 1, 1) := by decide +kernel
theorem dX0_greedyWord_36 : decode cX0_greedyWord 36 = .ok (.if_icmp .eq 15, 3) := by decide +kernel
theorem dX0_greedyWord_39 : decode cX0_greedyWord 39 = .ok (.iload 5, 2) := by decide +kernel
theorem dX0_greedyWord_41 : decode cX0_greedyWord 41 = .ok (.ifCond .lt 10, 3) := by decide +kernel
theorem dX0_greedyWord_44 : decode cX0_greedyWord 44 = .ok (.iload 5, 2) := by decide +kernel
theorem dX0_greedyWord_46 : decode cX0_greedyWord 46 = .ok (.bipush 64, 2) := by decide +kernel
theorem dX0_greedyWord_48 : decode cX0_greedyWord 48 = .ok (.if_icmp .lt 6, 3) := by decide +kernel
theorem dX0_greedyWord_51 : decode cX0_greedyWord 51 = .ok (.iload 5, 2) := by decide +kernel
theorem dX0_greedyWord_53 : decode cX0_greedyWord 53 = .ok (.ireturn, 1) := by decide +kernel
theorem dX0_greedyWord_54 : decode cX0_greedyWord 54 = .ok (.lload_n 2, 1) := by decide +kernel
theorem dX0_greedyWord_55 : decode cX0_greedyWord 55 = .ok (.aload_n 0, 1) := by decide +kernel
theorem dX0_greedyWord_56 : decode cX0_greedyWord 56 = .ok (.getfield 24, 3) := by decide +kernel
theorem dX0_greedyWord_59 : decode cX0_greedyWord 59 = .ok (.iload 5, 2) := by decide +kernel
theorem dX0_greedyWord_61 : decode cX0_greedyWord 61 = .ok (.laload, 1) := by decide +kernel
theorem dX0_greedyWord_62 : decode cX0_greedyWord 62 = .ok (.ldc2_w 56, 3) := by decide +kernel
theorem dX0_greedyWord_65 : decode cX0_greedyWord 65 = .ok (.lxor, 1) := by decide +kernel
theorem dX0_greedyWord_66 : decode cX0_greedyWord 66 = .ok (.land, 1) := by decide +kernel
theorem dX0_greedyWord_67 : decode cX0_greedyWord 67 = .ok (.lstore_n 2, 1) := by decide +kernel
theorem dX0_greedyWord_68 : decode cX0_greedyWord 68 = .ok (.iinc 4 1, 3) := by decide +kernel
theorem dX0_greedyWord_71 : decode cX0_greedyWord 71 = .ok (.goto (-63), 3) := by decide +kernel
theorem dX0_greedyWord_74 : decode cX0_greedyWord 74 = .ok (.bipush (-104), 2) := by decide +kernel
theorem dX0_greedyWord_76 : decode cX0_greedyWord 76 = .ok (.ireturn, 1) := by decide +kernel
set_option maxRecDepth 20000 in
theorem ggX0_collectExposed_X1_faults : GoodIn wsX0_collectExposed wsX1_faults := goodIn_r _ [6, 7, 90, 91, 92, 93, 94, 95, 96, 97, 98, 99] (by decide +kernel) (by decide +kernel)
set_option maxRecDepth 20000 in
theorem gX0_collectExposed_X1_faults_n75 : GoodIn wsX0_collectExposed (wsX1_faults) := ggX0_collectExposed_X1_faults
set_option maxRecDepth 20000 in
theorem ggX0_collectExposed_X0_exposing : GoodIn wsX0_collectExposed wsX0_exposing := goodIn_r _ [12, 2, 13, 14, 15, 16, 11, 17, 18, 19, 20, 21, 22, 23, 24, 25, 26, 27, 28, 4, 29, 30, 31, 32, 33, 34, 35, 36, 37, 38, 39, 40, 41, 42, 43, 44, 45, 46, 47, 48, 49, 50, 51, 52, 53, 54, 55, 56, 57, 58, 59, 60, 61, 62, 63, 64, 65, 66, 67, 68, 69, 70, 71, 72, 73, 74, 75, 76, 84, 85, 86, 87, 88, 89, 90, 91, 92, 93, 94, 95, 96, 97, 98, 99] (by decide +kernel) (by decide +kernel)
set_option maxRecDepth 20000 in
theorem gX0_collectExposed_X0_exposing : GoodIn wsX0_collectExposed (wsV RX0 83 RX0 yX0_exposing wsX0_exposing) := goodIn_app (goodIn_of _ (by decide +kernel)) ggX0_collectExposed_X0_exposing
set_option maxRecDepth 20000 in
theorem ggX0_collectExposed_X0_addExposed : GoodIn wsX0_collectExposed wsX0_addExposed := goodIn_r _ [80, 1, 81, 82, 83, 84, 85, 86, 87, 88, 89] (by decide +kernel) (by decide +kernel)
set_option maxRecDepth 20000 in
theorem gX0_collectExposed_X0_addExposed : GoodIn wsX0_collectExposed (wsV RX0 87 RX0 yX0_addExposed wsX0_addExposed) := goodIn_app (goodIn_of _ (by decide +kernel)) ggX0_collectExposed_X0_addExposed
theorem dX0_collectExposed_0 : decode cX0_collectExposed 0 = .ok (.iconst 0, 1) := by decide +kernel
theorem dX0_collectExposed_1 : decode cX0_collectExposed 1 = .ok (.istore_n 1, 1) := by decide +kernel
theorem dX0_collectExposed_2 : decode cX0_collectExposed 2 = .ok (.iload_n 1, 1) := by decide +kernel
theorem dX0_collectExposed_3 : decode cX0_collectExposed 3 = .ok (.bipush 64, 2) := by decide +kernel
theorem dX0_collectExposed_5 : decode cX0_collectExposed 5 = .ok (.if_icmp .ge 16, 3) := by decide +kernel
theorem dX0_collectExposed_8 : decode cX0_collectExposed 8 = .ok (.aload_n 0, 1) := by decide +kernel
theorem dX0_collectExposed_9 : decode cX0_collectExposed 9 = .ok (.getfield 24, 3) := by decide +kernel
theorem dX0_collectExposed_12 : decode cX0_collectExposed 12 = .ok (.iload_n 1, 1) := by decide +kernel
theorem dX0_collectExposed_13 : decode cX0_collectExposed 13 = .ok (.lconst 0, 1) := by decide +kernel
theorem dX0_collectExposed_14 : decode cX0_collectExposed 14 = .ok (.lastore, 1) := by decide +kernel
theorem dX0_collectExposed_15 : decode cX0_collectExposed 15 = .ok (.iinc 1 1, 3) := by decide +kernel
theorem dX0_collectExposed_18 : decode cX0_collectExposed 18 = .ok (.goto (-16), 3) := by decide +kernel
theorem dX0_collectExposed_21 : decode cX0_collectExposed 21 = .ok (.lconst 0, 1) := by decide +kernel
theorem dX0_collectExposed_22 : decode cX0_collectExposed 22 = .ok (.lstore_n 1, 1) := by decide +kernel
theorem dX0_collectExposed_23 : decode cX0_collectExposed 23 = .ok (.iconst 0, 1) := by decide +kernel
theorem dX0_collectExposed_24 : decode cX0_collectExposed 24 = .ok (.istore_n 3, 1) := by decide +kernel
theorem dX0_collectExposed_25 : decode cX0_collectExposed 25 = .ok (.iload_n 3, 1) := by decide +kernel
theorem dX0_collectExposed_26 : decode cX0_collectExposed 26 = .ok (.aload_n 0, 1) := by decide +kernel
theorem dX0_collectExposed_27 : decode cX0_collectExposed 27 = .ok (.getfield 27, 3) := by decide +kernel
theorem dX0_collectExposed_30 : decode cX0_collectExposed 30 = .ok (.invokevirtual 75, 3) := by decide +kernel
theorem dX0_collectExposed_33 : decode cX0_collectExposed 33 = .ok (.if_icmp .ge 36, 3) := by decide +kernel
theorem dX0_collectExposed_36 : decode cX0_collectExposed 36 = .ok (.aload_n 0, 1) := by decide +kernel
theorem dX0_collectExposed_37 : decode cX0_collectExposed 37 = .ok (.iload_n 3, 1) := by decide +kernel
theorem dX0_collectExposed_38 : decode cX0_collectExposed 38 = .ok (.invokevirtual 83, 3) := by decide +kernel
theorem dX0_collectExposed_41 : decode cX0_collectExposed 41 = .ok (.lstore 4, 2) := by decide +kernel
theorem dX0_collectExposed_43 : decode cX0_collectExposed 43 = .ok (.lload 4, 2) := by decide +kernel
theorem dX0_collectExposed_45 : decode cX0_collectExposed 45 = .ok (.lconst 0, 1) := by decide +kernel
theorem dX0_collectExposed_46 : decode cX0_collectExposed 46 = .ok (.lcmp, 1) := by decide +kernel
theorem dX0_collectExposed_47 : decode cX0_collectExposed 47 = .ok (.ifCond .eq 16, 3) := by decide +kernel
theorem dX0_collectExposed_50 : decode cX0_collectExposed 50 = .ok (.lload_n 1, 1) := by decide +kernel
theorem dX0_collectExposed_51 : decode cX0_collectExposed 51 = .ok (.lconst 1, 1) := by decide +kernel
theorem dX0_collectExposed_52 : decode cX0_collectExposed 52 = .ok (.iload_n 3, 1) := by decide +kernel
theorem dX0_collectExposed_53 : decode cX0_collectExposed 53 = .ok (.lshl, 1) := by decide +kernel
theorem dX0_collectExposed_54 : decode cX0_collectExposed 54 = .ok (.lor, 1) := by decide +kernel
theorem dX0_collectExposed_55 : decode cX0_collectExposed 55 = .ok (.lstore_n 1, 1) := by decide +kernel
theorem dX0_collectExposed_56 : decode cX0_collectExposed 56 = .ok (.aload_n 0, 1) := by decide +kernel
theorem dX0_collectExposed_57 : decode cX0_collectExposed 57 = .ok (.iload_n 3, 1) := by decide +kernel
theorem dX0_collectExposed_58 : decode cX0_collectExposed 58 = .ok (.lload 4, 2) := by decide +kernel
theorem dX0_collectExposed_60 : decode cX0_collectExposed 60 = .ok (.invokevirtual 87, 3) := by decide +kernel
theorem dX0_collectExposed_63 : decode cX0_collectExposed 63 = .ok (.iinc 3 1, 3) := by decide +kernel
theorem dX0_collectExposed_66 : decode cX0_collectExposed 66 = .ok (.goto (-41), 3) := by decide +kernel
theorem dX0_collectExposed_69 : decode cX0_collectExposed 69 = .ok (.lload_n 1, 1) := by decide +kernel
theorem dX0_collectExposed_70 : decode cX0_collectExposed 70 = .ok (.lreturn, 1) := by decide +kernel
set_option maxRecDepth 20000 in
theorem ggX0_addExposed_X5_bit : GoodIn wsX0_addExposed wsX5_bit := goodIn_r _ [4] (by decide +kernel) (by decide +kernel)
set_option maxRecDepth 20000 in
theorem gX0_addExposed_X5_bit_n68 : GoodIn wsX0_addExposed (wsX5_bit) := ggX0_addExposed_X5_bit
theorem dX0_addExposed_0 : decode cX0_addExposed 0 = .ok (.iconst 0, 1) := by decide +kernel
theorem dX0_addExposed_1 : decode cX0_addExposed 1 = .ok (.istore 4, 2) := by decide +kernel
theorem dX0_addExposed_3 : decode cX0_addExposed 3 = .ok (.iload 4, 2) := by decide +kernel
theorem dX0_addExposed_5 : decode cX0_addExposed 5 = .ok (.bipush 64, 2) := by decide +kernel
theorem dX0_addExposed_7 : decode cX0_addExposed 7 = .ok (.if_icmp .ge 32, 3) := by decide +kernel
theorem dX0_addExposed_10 : decode cX0_addExposed 10 = .ok (.lload_n 2, 1) := by decide +kernel
theorem dX0_addExposed_11 : decode cX0_addExposed 11 = .ok (.iload 4, 2) := by decide +kernel
theorem dX0_addExposed_13 : decode cX0_addExposed 13 = .ok (.invokestatic 68, 3) := by decide +kernel
theorem dX0_addExposed_16 : decode cX0_addExposed 16 = .ok (.iconst 1, 1) := by decide +kernel
theorem dX0_addExposed_17 : decode cX0_addExposed 17 = .ok (.if_icmp .ne 16, 3) := by decide +kernel
theorem dX0_addExposed_20 : decode cX0_addExposed 20 = .ok (.aload_n 0, 1) := by decide +kernel
theorem dX0_addExposed_21 : decode cX0_addExposed 21 = .ok (.getfield 24, 3) := by decide +kernel
theorem dX0_addExposed_24 : decode cX0_addExposed 24 = .ok (.iload 4, 2) := by decide +kernel
theorem dX0_addExposed_26 : decode cX0_addExposed 26 = .ok (.dup2, 1) := by decide +kernel
theorem dX0_addExposed_27 : decode cX0_addExposed 27 = .ok (.laload, 1) := by decide +kernel
theorem dX0_addExposed_28 : decode cX0_addExposed 28 = .ok (.lconst 1, 1) := by decide +kernel
theorem dX0_addExposed_29 : decode cX0_addExposed 29 = .ok (.iload_n 1, 1) := by decide +kernel
theorem dX0_addExposed_30 : decode cX0_addExposed 30 = .ok (.lshl, 1) := by decide +kernel
theorem dX0_addExposed_31 : decode cX0_addExposed 31 = .ok (.lor, 1) := by decide +kernel
theorem dX0_addExposed_32 : decode cX0_addExposed 32 = .ok (.lastore, 1) := by decide +kernel
theorem dX0_addExposed_33 : decode cX0_addExposed 33 = .ok (.iinc 4 1, 3) := by decide +kernel
theorem dX0_addExposed_36 : decode cX0_addExposed 36 = .ok (.goto (-33), 3) := by decide +kernel
theorem dX0_addExposed_39 : decode cX0_addExposed 39 = .ok (.return_, 1) := by decide +kernel
set_option maxRecDepth 20000 in
theorem ggX0_bestWord_J13_bitCount_95d88 : GoodIn wsX0_bestWord wsJ13_bitCount_95d88 := goodIn_r _ [5, 6, 7, 8] (by decide +kernel) (by decide +kernel)
set_option maxRecDepth 20000 in
theorem gX0_bestWord_J13_bitCount_95d88 : GoodIn wsX0_bestWord (va_wsS RX0 91 yJ13_bitCount_95d88 wsJ13_bitCount_95d88) := goodIn_app (goodIn_of _ (by decide +kernel)) ggX0_bestWord_J13_bitCount_95d88
theorem dX0_bestWord_0 : decode cX0_bestWord 0 = .ok (.bipush (-104), 2) := by decide +kernel
theorem dX0_bestWord_2 : decode cX0_bestWord 2 = .ok (.istore_n 3, 1) := by decide +kernel
theorem dX0_bestWord_3 : decode cX0_bestWord 3 = .ok (.iconst 0, 1) := by decide +kernel
theorem dX0_bestWord_4 : decode cX0_bestWord 4 = .ok (.istore 4, 2) := by decide +kernel
theorem dX0_bestWord_6 : decode cX0_bestWord 6 = .ok (.iconst 0, 1) := by decide +kernel
theorem dX0_bestWord_7 : decode cX0_bestWord 7 = .ok (.istore 5, 2) := by decide +kernel
theorem dX0_bestWord_9 : decode cX0_bestWord 9 = .ok (.iload 5, 2) := by decide +kernel
theorem dX0_bestWord_11 : decode cX0_bestWord 11 = .ok (.bipush 64, 2) := by decide +kernel
theorem dX0_bestWord_13 : decode cX0_bestWord 13 = .ok (.if_icmp .ge 37, 3) := by decide +kernel
theorem dX0_bestWord_16 : decode cX0_bestWord 16 = .ok (.aload_n 0, 1) := by decide +kernel
theorem dX0_bestWord_17 : decode cX0_bestWord 17 = .ok (.getfield 24, 3) := by decide +kernel
theorem dX0_bestWord_20 : decode cX0_bestWord 20 = .ok (.iload 5, 2) := by decide +kernel
theorem dX0_bestWord_22 : decode cX0_bestWord 22 = .ok (.laload, 1) := by decide +kernel
theorem dX0_bestWord_23 : decode cX0_bestWord 23 = .ok (.lload_n 1, 1) := by decide +kernel
theorem dX0_bestWord_24 : decode cX0_bestWord 24 = .ok (.land, 1) := by decide +kernel
theorem dX0_bestWord_25 : decode cX0_bestWord 25 = .ok (.invokestatic 91, 3) := by decide +kernel
theorem dX0_bestWord_28 : decode cX0_bestWord 28 = .ok (.istore 6, 2) := by decide +kernel
theorem dX0_bestWord_30 : decode cX0_bestWord 30 = .ok (.iload 6, 2) := by decide +kernel
theorem dX0_bestWord_32 : decode cX0_bestWord 32 = .ok (.iload 4, 2) := by decide +kernel
theorem dX0_bestWord_34 : decode cX0_bestWord 34 = .ok (.if_icmp .le 10, 3) := by decide +kernel
theorem dX0_bestWord_37 : decode cX0_bestWord 37 = .ok (.iload 6, 2) := by decide +kernel
theorem dX0_bestWord_39 : decode cX0_bestWord 39 = .ok (.istore 4, 2) := by decide +kernel
theorem dX0_bestWord_41 : decode cX0_bestWord 41 = .ok (.iload 5, 2) := by decide +kernel
theorem dX0_bestWord_43 : decode cX0_bestWord 43 = .ok (.istore_n 3, 1) := by decide +kernel
theorem dX0_bestWord_44 : decode cX0_bestWord 44 = .ok (.iinc 5 1, 3) := by decide +kernel
theorem dX0_bestWord_47 : decode cX0_bestWord 47 = .ok (.goto (-38), 3) := by decide +kernel
theorem dX0_bestWord_50 : decode cX0_bestWord 50 = .ok (.iload_n 3, 1) := by decide +kernel
theorem dX0_bestWord_51 : decode cX0_bestWord 51 = .ok (.ireturn, 1) := by decide +kernel
set_option maxRecDepth 20000 in
theorem ggX0_simulate_X0_columnOfBit : GoodIn wsX0_simulate wsX0_columnOfBit := goodIn_r _ [7] (by decide +kernel) (by decide +kernel)
set_option maxRecDepth 20000 in
theorem gX0_simulate_X0_columnOfBit : GoodIn wsX0_simulate (va_wsS RX0 39 yX0_columnOfBit wsX0_columnOfBit) := goodIn_app (goodIn_of _ (by decide +kernel)) ggX0_simulate_X0_columnOfBit
set_option maxRecDepth 20000 in
theorem ggX0_simulate_X0_soundColumn : GoodIn wsX0_simulate wsX0_soundColumn := goodIn_r _ [11, 1, 12, 13, 14, 15, 16, 17, 18, 19, 20, 21, 6, 22, 2, 23, 24, 25, 26, 27, 28, 29, 30, 35, 36, 37, 38, 39, 40, 41, 42, 43, 44, 45, 46, 47, 48, 49, 50] (by decide +kernel) (by decide +kernel)
set_option maxRecDepth 20000 in
theorem gX0_simulate_X0_soundColumn : GoodIn wsX0_simulate (wsV RX0 99 RX0 yX0_soundColumn wsX0_soundColumn) := goodIn_app (goodIn_of _ (by decide +kernel)) ggX0_simulate_X0_soundColumn
set_option maxRecDepth 20000 in
theorem ggX0_simulate_X1_nodeOfOutput : GoodIn wsX0_simulate wsX1_nodeOfOutput := goodIn_r _ [33, 34, 41, 42, 43, 44, 45, 46, 47, 48, 49, 50] (by decide +kernel) (by decide +kernel)
set_option maxRecDepth 20000 in
theorem gX0_simulate_X1_nodeOfOutput_n102 : GoodIn wsX0_simulate (wsX1_nodeOfOutput) := ggX0_simulate_X1_nodeOfOutput
set_option maxRecDepth 20000 in
theorem ggX0_simulate_X0_columnOf : GoodIn wsX0_simulate wsX0_columnOf := goodIn_r _ [22, 2, 35, 36, 37, 38, 39, 40] (by decide +kernel) (by decide +kernel)
set_option maxRecDepth 20000 in
theorem gX0_simulate_X0_columnOf : GoodIn wsX0_simulate (wsV RX0 105 RX0 yX0_columnOf wsX0_columnOf) := goodIn_app (goodIn_of _ (by decide +kernel)) ggX0_simulate_X0_columnOf
theorem dX0_simulate_0 : decode cX0_simulate 0 = .ok (.iload_n 1, 1) := by decide +kernel
theorem dX0_simulate_1 : decode cX0_simulate 1 = .ok (.iconst 1, 1) := by decide +kernel
theorem dX0_simulate_2 : decode cX0_simulate 2 = .ok (.ishr, 1) := by decide +kernel
theorem dX0_simulate_3 : decode cX0_simulate 3 = .ok (.istore_n 2, 1) := by decide +kernel
theorem dX0_simulate_4 : decode cX0_simulate 4 = .ok (.iconst 0, 1) := by decide +kernel
theorem dX0_simulate_5 : decode cX0_simulate 5 = .ok (.istore_n 3, 1) := by decide +kernel
theorem dX0_simulate_6 : decode cX0_simulate 6 = .ok (.iload_n 3, 1) := by decide +kernel
theorem dX0_simulate_7 : decode cX0_simulate 7 = .ok (.aload_n 0, 1) := by decide +kernel
theorem dX0_simulate_8 : decode cX0_simulate 8 = .ok (.getfield 27, 3) := by decide +kernel
theorem dX0_simulate_11 : decode cX0_simulate 11 = .ok (.getfield 96, 3) := by decide +kernel
theorem dX0_simulate_14 : decode cX0_simulate 14 = .ok (.if_icmp .ge 39, 3) := by decide +kernel
theorem dX0_simulate_17 : decode cX0_simulate 17 = .ok (.iload_n 3, 1) := by decide +kernel
theorem dX0_simulate_18 : decode cX0_simulate 18 = .ok (.bipush 30, 2) := by decide +kernel
theorem dX0_simulate_20 : decode cX0_simulate 20 = .ok (.if_icmp .ge 33, 3) := by decide +kernel
theorem dX0_simulate_23 : decode cX0_simulate 23 = .ok (.aload_n 0, 1) := by decide +kernel
theorem dX0_simulate_24 : decode cX0_simulate 24 = .ok (.getfield 9, 3) := by decide +kernel
theorem dX0_simulate_27 : decode cX0_simulate 27 = .ok (.iload_n 3, 1) := by decide +kernel
theorem dX0_simulate_28 : decode cX0_simulate 28 = .ok (.iload_n 3, 1) := by decide +kernel
theorem dX0_simulate_29 : decode cX0_simulate 29 = .ok (.iload_n 2, 1) := by decide +kernel
theorem dX0_simulate_30 : decode cX0_simulate 30 = .ok (.if_icmp .ne 11, 3) := by decide +kernel
theorem dX0_simulate_33 : decode cX0_simulate 33 = .ok (.iload_n 1, 1) := by decide +kernel
theorem dX0_simulate_34 : decode cX0_simulate 34 = .ok (.iconst 0, 1) := by decide +kernel
theorem dX0_simulate_35 : decode cX0_simulate 35 = .ok (.invokestatic 39, 3) := by decide +kernel
theorem dX0_simulate_38 : decode cX0_simulate 38 = .ok (.goto 8, 3) := by decide +kernel
theorem dX0_simulate_41 : decode cX0_simulate 41 = .ok (.aload_n 0, 1) := by decide +kernel
theorem dX0_simulate_42 : decode cX0_simulate 42 = .ok (.iload_n 3, 1) := by decide +kernel
theorem dX0_simulate_43 : decode cX0_simulate 43 = .ok (.invokevirtual 99, 3) := by decide +kernel
theorem dX0_simulate_46 : decode cX0_simulate 46 = .ok (.lastore, 1) := by decide +kernel
theorem dX0_simulate_47 : decode cX0_simulate 47 = .ok (.iinc 3 1, 3) := by decide +kernel
theorem dX0_simulate_50 : decode cX0_simulate 50 = .ok (.goto (-44), 3) := by decide +kernel
theorem dX0_simulate_53 : decode cX0_simulate 53 = .ok (.iconst 0, 1) := by decide +kernel
theorem dX0_simulate_54 : decode cX0_simulate 54 = .ok (.istore_n 3, 1) := by decide +kernel
theorem dX0_simulate_55 : decode cX0_simulate 55 = .ok (.iload_n 3, 1) := by decide +kernel
theorem dX0_simulate_56 : decode cX0_simulate 56 = .ok (.aload_n 0, 1) := by decide +kernel
theorem dX0_simulate_57 : decode cX0_simulate 57 = .ok (.getfield 27, 3) := by decide +kernel
theorem dX0_simulate_60 : decode cX0_simulate 60 = .ok (.getfield 64, 3) := by decide +kernel
theorem dX0_simulate_63 : decode cX0_simulate 63 = .ok (.if_icmp .ge 33, 3) := by decide +kernel
theorem dX0_simulate_66 : decode cX0_simulate 66 = .ok (.iload_n 3, 1) := by decide +kernel
theorem dX0_simulate_67 : decode cX0_simulate 67 = .ok (.bipush 6, 2) := by decide +kernel
theorem dX0_simulate_69 : decode cX0_simulate 69 = .ok (.if_icmp .ge 27, 3) := by decide +kernel
theorem dX0_simulate_72 : decode cX0_simulate 72 = .ok (.aload_n 0, 1) := by decide +kernel
theorem dX0_simulate_73 : decode cX0_simulate 73 = .ok (.getfield 15, 3) := by decide +kernel
theorem dX0_simulate_76 : decode cX0_simulate 76 = .ok (.iload_n 3, 1) := by decide +kernel
theorem dX0_simulate_77 : decode cX0_simulate 77 = .ok (.aload_n 0, 1) := by decide +kernel
theorem dX0_simulate_78 : decode cX0_simulate 78 = .ok (.aload_n 0, 1) := by decide +kernel
theorem dX0_simulate_79 : decode cX0_simulate 79 = .ok (.getfield 27, 3) := by decide +kernel
theorem dX0_simulate_82 : decode cX0_simulate 82 = .ok (.iload_n 3, 1) := by decide +kernel
theorem dX0_simulate_83 : decode cX0_simulate 83 = .ok (.invokevirtual 102, 3) := by decide +kernel
theorem dX0_simulate_86 : decode cX0_simulate 86 = .ok (.invokevirtual 105, 3) := by decide +kernel
theorem dX0_simulate_89 : decode cX0_simulate 89 = .ok (.lastore, 1) := by decide +kernel
theorem dX0_simulate_90 : decode cX0_simulate 90 = .ok (.iinc 3 1, 3) := by decide +kernel
theorem dX0_simulate_93 : decode cX0_simulate 93 = .ok (.goto (-38), 3) := by decide +kernel
theorem dX0_simulate_96 : decode cX0_simulate 96 = .ok (.return_, 1) := by decide +kernel
set_option maxRecDepth 20000 in
theorem ggX0_soundColumn_X1_first : GoodIn wsX0_soundColumn wsX1_first := goodIn_r _ [7, 8, 29, 30, 31, 32, 33, 34, 35, 36, 37, 38] (by decide +kernel) (by decide +kernel)
set_option maxRecDepth 20000 in
theorem gX0_soundColumn_X1_first_n114 : GoodIn wsX0_soundColumn (wsX1_first) := ggX0_soundColumn_X1_first
set_option maxRecDepth 20000 in
theorem ggX0_soundColumn_X0_columnOf : GoodIn wsX0_soundColumn wsX0_columnOf := goodIn_r _ [13, 14, 23, 24, 25, 26, 27, 28] (by decide +kernel) (by decide +kernel)
set_option maxRecDepth 20000 in
theorem gX0_soundColumn_X0_columnOf : GoodIn wsX0_soundColumn (wsV RX0 105 RX0 yX0_columnOf wsX0_columnOf) := goodIn_app (goodIn_of _ (by decide +kernel)) ggX0_soundColumn_X0_columnOf
set_option maxRecDepth 20000 in
theorem ggX0_soundColumn_X1_second : GoodIn wsX0_soundColumn wsX1_second := goodIn_r _ [17, 18, 29, 30, 31, 32, 33, 34, 35, 36, 37, 38] (by decide +kernel) (by decide +kernel)
set_option maxRecDepth 20000 in
theorem gX0_soundColumn_X1_second_n117 : GoodIn wsX0_soundColumn (wsX1_second) := ggX0_soundColumn_X1_second
set_option maxRecDepth 20000 in
theorem ggX0_soundColumn_X1_type : GoodIn wsX0_soundColumn wsX1_type := goodIn_r _ [21, 22, 29, 30, 31, 32, 33, 34, 35, 36, 37, 38] (by decide +kernel) (by decide +kernel)
set_option maxRecDepth 20000 in
theorem gX0_soundColumn_X1_type_n120 : GoodIn wsX0_soundColumn (wsX1_type) := ggX0_soundColumn_X1_type
theorem dX0_soundColumn_0 : decode cX0_soundColumn 0 = .ok (.iload_n 1, 1) := by decide +kernel
theorem dX0_soundColumn_1 : decode cX0_soundColumn 1 = .ok (.ifCond .lt 26, 3) := by decide +kernel
theorem dX0_soundColumn_4 : decode cX0_soundColumn 4 = .ok (.iload_n 1, 1) := by decide +kernel
theorem dX0_soundColumn_5 : decode cX0_soundColumn 5 = .ok (.aload_n 0, 1) := by decide +kernel
theorem dX0_soundColumn_6 : decode cX0_soundColumn 6 = .ok (.getfield 27, 3) := by decide +kernel
theorem dX0_soundColumn_9 : decode cX0_soundColumn 9 = .ok (.getfield 108, 3) := by decide +kernel
theorem dX0_soundColumn_12 : decode cX0_soundColumn 12 = .ok (.if_icmp .ge 15, 3) := by decide +kernel
theorem dX0_soundColumn_15 : decode cX0_soundColumn 15 = .ok (.iload_n 1, 1) := by decide +kernel
theorem dX0_soundColumn_16 : decode cX0_soundColumn 16 = .ok (.bipush 6, 2) := by decide +kernel
theorem dX0_soundColumn_18 : decode cX0_soundColumn 18 = .ok (.if_icmp .ge 9, 3) := by decide +kernel
theorem dX0_soundColumn_21 : decode cX0_soundColumn 21 = .ok (.getstatic 111, 3) := by decide +kernel
theorem dX0_soundColumn_24 : decode cX0_soundColumn 24 = .ok (.iload_n 1, 1) := by decide +kernel
theorem dX0_soundColumn_25 : decode cX0_soundColumn 25 = .ok (.laload, 1) := by decide +kernel
theorem dX0_soundColumn_26 : decode cX0_soundColumn 26 = .ok (.lreturn, 1) := by decide +kernel
theorem dX0_soundColumn_27 : decode cX0_soundColumn 27 = .ok (.aload_n 0, 1) := by decide +kernel
theorem dX0_soundColumn_28 : decode cX0_soundColumn 28 = .ok (.aload_n 0, 1) := by decide +kernel
theorem dX0_soundColumn_29 : decode cX0_soundColumn 29 = .ok (.getfield 27, 3) := by decide +kernel
theorem dX0_soundColumn_32 : decode cX0_soundColumn 32 = .ok (.iload_n 1, 1) := by decide +kernel
theorem dX0_soundColumn_33 : decode cX0_soundColumn 33 = .ok (.invokevirtual 114, 3) := by decide +kernel
theorem dX0_soundColumn_36 : decode cX0_soundColumn 36 = .ok (.invokevirtual 105, 3) := by decide +kernel
theorem dX0_soundColumn_39 : decode cX0_soundColumn 39 = .ok (.lstore_n 2, 1) := by decide +kernel
theorem dX0_soundColumn_40 : decode cX0_soundColumn 40 = .ok (.aload_n 0, 1) := by decide +kernel
theorem dX0_soundColumn_41 : decode cX0_soundColumn 41 = .ok (.aload_n 0, 1) := by decide +kernel
theorem dX0_soundColumn_42 : decode cX0_soundColumn 42 = .ok (.getfield 27, 3) := by decide +kernel
theorem dX0_soundColumn_45 : decode cX0_soundColumn 45 = .ok (.iload_n 1, 1) := by decide +kernel
theorem dX0_soundColumn_46 : decode cX0_soundColumn 46 = .ok (.invokevirtual 117, 3) := by decide +kernel
theorem dX0_soundColumn_49 : decode cX0_soundColumn 49 = .ok (.invokevirtual 105, 3) := by decide +kernel
theorem dX0_soundColumn_52 : decode cX0_soundColumn 52 = .ok (.lstore 4, 2) := by decide +kernel
theorem dX0_soundColumn_54 : decode cX0_soundColumn 54 = .ok (.aload_n 0, 1) := by decide +kernel
theorem dX0_soundColumn_55 : decode cX0_soundColumn 55 = .ok (.getfield 27, 3) := by decide +kernel
theorem dX0_soundColumn_58 : decode cX0_soundColumn 58 = .ok (.iload_n 1, 1) := by decide +kernel
theorem dX0_soundColumn_59 : decode cX0_soundColumn 59 = .ok (.invokevirtual 120, 3) := by decide +kernel
theorem dX0_soundColumn_62 : decode cX0_soundColumn 62 = .ok (.tableswitch 67 0 4 #[34, 39, 44, 49, 58], 34) := by decide +kernel
theorem dX0_soundColumn_96 : decode cX0_soundColumn 96 = .ok (.lload_n 2, 1) := by decide +kernel
theorem dX0_soundColumn_97 : decode cX0_soundColumn 97 = .ok (.lload 4, 2) := by decide +kernel
theorem dX0_soundColumn_99 : decode cX0_soundColumn 99 = .ok (.land, 1) := by decide +kernel
theorem dX0_soundColumn_100 : decode cX0_soundColumn 100 = .ok (.lreturn, 1) := by decide +kernel
theorem dX0_soundColumn_101 : decode cX0_soundColumn 101 = .ok (.lload_n 2, 1) := by decide +kernel
theorem dX0_soundColumn_102 : decode cX0_soundColumn 102 = .ok (.lload 4, 2) := by decide +kernel
theorem dX0_soundColumn_104 : decode cX0_soundColumn 104 = .ok (.lor, 1) := by decide +kernel
theorem dX0_soundColumn_105 : decode cX0_soundColumn 105 = .ok (.lreturn, 1) := by decide +kernel
theorem dX0_soundColumn_106 : decode cX0_soundColumn 106 = .ok (.lload_n 2, 1) := by decide +kernel
theorem dX0_soundColumn_107 : decode cX0_soundColumn 107 = .ok (.lload 4, 2) := by decide +kernel
theorem dX0_soundColumn_109 : decode cX0_soundColumn 109 = .ok (.lxor, 1) := by decide +kernel
theorem dX0_soundColumn_110 : decode cX0_soundColumn 110 = .ok (.lreturn, 1) := by decide +kernel
theorem dX0_soundColumn_111 : decode cX0_soundColumn 111 = .ok (.lload_n 2, 1) := by decide +kernel
theorem dX0_soundColumn_112 : decode cX0_soundColumn 112 = .ok (.lload 4, 2) := by decide +kernel
theorem dX0_soundColumn_114 : decode cX0_soundColumn 114 = .ok (.land, 1) := by decide +kernel
theorem dX0_soundColumn_115 : decode cX0_soundColumn 115 = .ok (.ldc2_w 56, 3) := by decide +kernel
theorem dX0_soundColumn_118 : decode cX0_soundColumn 118 = .ok (.lxor, 1) := by decide +kernel
theorem dX0_soundColumn_119 : decode cX0_soundColumn 119 = .ok (.lreturn, 1) := by decide +kernel
theorem dX0_soundColumn_120 : decode cX0_soundColumn 120 = .ok (.lload_n 2, 1) := by decide +kernel
theorem dX0_soundColumn_121 : decode cX0_soundColumn 121 = .ok (.lload 4, 2) := by decide +kernel
theorem dX0_soundColumn_123 : decode cX0_soundColumn 123 = .ok (.lor, 1) := by decide +kernel
theorem dX0_soundColumn_124 : decode cX0_soundColumn 124 = .ok (.ldc2_w 56, 3) := by decide +kernel
theorem dX0_soundColumn_127 : decode cX0_soundColumn 127 = .ok (.lxor, 1) := by decide +kernel
theorem dX0_soundColumn_128 : decode cX0_soundColumn 128 = .ok (.lreturn, 1) := by decide +kernel
theorem dX0_soundColumn_129 : decode cX0_soundColumn 129 = .ok (.lload_n 2, 1) := by decide +kernel
theorem dX0_soundColumn_130 : decode cX0_soundColumn 130 = .ok (.ldc2_w 56, 3) := by decide +kernel
theorem dX0_soundColumn_133 : decode cX0_soundColumn 133 = .ok (.lxor, 1) := by decide +kernel
theorem dX0_soundColumn_134 : decode cX0_soundColumn 134 = .ok (.lreturn, 1) := by decide +kernel
theorem dX0_columnOf_0 : decode cX0_columnOf 0 = .ok (.iload_n 1, 1) := by decide +kernel
theorem dX0_columnOf_1 : decode cX0_columnOf 1 = .ok (.ifCond .lt 18, 3) := by decide +kernel
theorem dX0_columnOf_4 : decode cX0_columnOf 4 = .ok (.iload_n 1, 1) := by decide +kernel
theorem dX0_columnOf_5 : decode cX0_columnOf 5 = .ok (.bipush 30, 2) := by decide +kernel
theorem dX0_columnOf_7 : decode cX0_columnOf 7 = .ok (.if_icmp .ge 12, 3) := by decide +kernel
theorem dX0_columnOf_10 : decode cX0_columnOf 10 = .ok (.aload_n 0, 1) := by decide +kernel
theorem dX0_columnOf_11 : decode cX0_columnOf 11 = .ok (.getfield 9, 3) := by decide +kernel
theorem dX0_columnOf_14 : decode cX0_columnOf 14 = .ok (.iload_n 1, 1) := by decide +kernel
theorem dX0_columnOf_15 : decode cX0_columnOf 15 = .ok (.laload, 1) := by decide +kernel
theorem dX0_columnOf_16 : decode cX0_columnOf 16 = .ok (.goto 4, 3) := by decide +kernel
theorem dX0_columnOf_19 : decode cX0_columnOf 19 = .ok (.lconst 0, 1) := by decide +kernel
theorem dX0_columnOf_20 : decode cX0_columnOf 20 = .ok (.lreturn, 1) := by decide +kernel
theorem dX0_columnOfBit_0 : decode cX0_columnOfBit 0 = .ok (.iload_n 0, 1) := by decide +kernel
theorem dX0_columnOfBit_1 : decode cX0_columnOfBit 1 = .ok (.iload_n 1, 1) := by decide +kernel
theorem dX0_columnOfBit_2 : decode cX0_columnOfBit 2 = .ok (.ishr, 1) := by decide +kernel
theorem dX0_columnOfBit_3 : decode cX0_columnOfBit 3 = .ok (.i2l, 1) := by decide +kernel
theorem dX0_columnOfBit_4 : decode cX0_columnOfBit 4 = .ok (.lconst 1, 1) := by decide +kernel
theorem dX0_columnOfBit_5 : decode cX0_columnOfBit 5 = .ok (.land, 1) := by decide +kernel
theorem dX0_columnOfBit_6 : decode cX0_columnOfBit 6 = .ok (.lneg, 1) := by decide +kernel
theorem dX0_columnOfBit_7 : decode cX0_columnOfBit 7 = .ok (.lreturn, 1) := by decide +kernel
set_option maxRecDepth 20000 in
theorem ggX0_wordInColumns_X5_bit : GoodIn wsX0_wordInColumns wsX5_bit := goodIn_r _ [5] (by decide +kernel) (by decide +kernel)
set_option maxRecDepth 20000 in
theorem gX0_wordInColumns_X5_bit_n68 : GoodIn wsX0_wordInColumns (wsX5_bit) := ggX0_wordInColumns_X5_bit
theorem dX0_wordInColumns_0 : decode cX0_wordInColumns 0 = .ok (.iconst 0, 1) := by decide +kernel
theorem dX0_wordInColumns_1 : decode cX0_wordInColumns 1 = .ok (.istore_n 2, 1) := by decide +kernel
theorem dX0_wordInColumns_2 : decode cX0_wordInColumns 2 = .ok (.iconst 0, 1) := by decide +kernel
theorem dX0_wordInColumns_3 : decode cX0_wordInColumns 3 = .ok (.istore_n 3, 1) := by decide +kernel
theorem dX0_wordInColumns_4 : decode cX0_wordInColumns 4 = .ok (.iload_n 3, 1) := by decide +kernel
theorem dX0_wordInColumns_5 : decode cX0_wordInColumns 5 = .ok (.aload_n 0, 1) := by decide +kernel
theorem dX0_wordInColumns_6 : decode cX0_wordInColumns 6 = .ok (.getfield 27, 3) := by decide +kernel
theorem dX0_wordInColumns_9 : decode cX0_wordInColumns 9 = .ok (.getfield 64, 3) := by decide +kernel
theorem dX0_wordInColumns_12 : decode cX0_wordInColumns 12 = .ok (.if_icmp .ge 30, 3) := by decide +kernel
theorem dX0_wordInColumns_15 : decode cX0_wordInColumns 15 = .ok (.iload_n 3, 1) := by decide +kernel
theorem dX0_wordInColumns_16 : decode cX0_wordInColumns 16 = .ok (.bipush 6, 2) := by decide +kernel
theorem dX0_wordInColumns_18 : decode cX0_wordInColumns 18 = .ok (.if_icmp .ge 24, 3) := by decide +kernel
theorem dX0_wordInColumns_21 : decode cX0_wordInColumns 21 = .ok (.iload_n 2, 1) := by decide +kernel
theorem dX0_wordInColumns_22 : decode cX0_wordInColumns 22 = .ok (.aload_n 0, 1) := by decide +kernel
theorem dX0_wordInColumns_23 : decode cX0_wordInColumns 23 = .ok (.getfield 15, 3) := by decide +kernel
theorem dX0_wordInColumns_26 : decode cX0_wordInColumns 26 = .ok (.iload_n 3, 1) := by decide +kernel
theorem dX0_wordInColumns_27 : decode cX0_wordInColumns 27 = .ok (.laload, 1) := by decide +kernel
theorem dX0_wordInColumns_28 : decode cX0_wordInColumns 28 = .ok (.iload_n 1, 1) := by decide +kernel
theorem dX0_wordInColumns_29 : decode cX0_wordInColumns 29 = .ok (.invokestatic 68, 3) := by decide +kernel
theorem dX0_wordInColumns_32 : decode cX0_wordInColumns 32 = .ok (.iload_n 3, 1) := by decide +kernel
theorem dX0_wordInColumns_33 : decode cX0_wordInColumns 33 = .ok (.ishl, 1) := by decide +kernel
theorem dX0_wordInColumns_34 : decode cX0_wordInColumns 34 = .ok (.ior, 1) := by decide +kernel
theorem dX0_wordInColumns_35 : decode cX0_wordInColumns 35 = .ok (.istore_n 2, 1) := by decide +kernel
theorem dX0_wordInColumns_36 : decode cX0_wordInColumns 36 = .ok (.iinc 3 1, 3) := by decide +kernel
theorem dX0_wordInColumns_39 : decode cX0_wordInColumns 39 = .ok (.goto (-35), 3) := by decide +kernel
theorem dX0_wordInColumns_42 : decode cX0_wordInColumns 42 = .ok (.iload_n 2, 1) := by decide +kernel
theorem dX0_wordInColumns_43 : decode cX0_wordInColumns 43 = .ok (.ireturn, 1) := by decide +kernel
set_option maxRecDepth 20000 in
theorem ggX0_inCode_X0_inTwoRail : GoodIn wsX0_inCode wsX0_inTwoRail := goodIn_r _ [7, 2, 8, 33, 34, 35, 36, 37, 38] (by decide +kernel) (by decide +kernel)
set_option maxRecDepth 20000 in
theorem gX0_inCode_X0_inTwoRail : GoodIn wsX0_inCode (wsV RX0 126 RX0 yX0_inTwoRail wsX0_inTwoRail) := goodIn_app (goodIn_of _ (by decide +kernel)) ggX0_inCode_X0_inTwoRail
set_option maxRecDepth 20000 in
theorem ggX0_inCode_X0_inConstantWeight : GoodIn wsX0_inCode wsX0_inConstantWeight := goodIn_r _ [12, 8, 2, 13, 14, 15, 16, 6, 17, 18, 19, 20, 21, 22, 23, 24, 33, 34, 35, 36, 37, 38] (by decide +kernel) (by decide +kernel)
set_option maxRecDepth 20000 in
theorem gX0_inCode_X0_inConstantWeight : GoodIn wsX0_inCode (wsV RX0 132 RX0 yX0_inConstantWeight wsX0_inConstantWeight) := goodIn_app (goodIn_of _ (by decide +kernel)) ggX0_inCode_X0_inConstantWeight
set_option maxRecDepth 20000 in
theorem ggX0_inCode_X0_inBerger : GoodIn wsX0_inCode wsX0_inBerger := goodIn_r _ [28, 8, 2, 13, 14, 15, 16, 6, 17, 18, 19, 20, 21, 29, 30, 31, 32, 33, 34, 35, 36, 37, 38] (by decide +kernel) (by decide +kernel)
set_option maxRecDepth 20000 in
theorem gX0_inCode_X0_inBerger : GoodIn wsX0_inCode (wsV RX0 135 RX0 yX0_inBerger wsX0_inBerger) := goodIn_app (goodIn_of _ (by decide +kernel)) ggX0_inCode_X0_inBerger
theorem dX0_inCode_0 : decode cX0_inCode 0 = .ok (.aload_n 0, 1) := by decide +kernel
theorem dX0_inCode_1 : decode cX0_inCode 1 = .ok (.getfield 27, 3) := by decide +kernel
theorem dX0_inCode_4 : decode cX0_inCode 4 = .ok (.getfield 123, 3) := by decide +kernel
theorem dX0_inCode_7 : decode cX0_inCode 7 = .ok (.tableswitch 75 1 3 #[25, 37, 56], 25) := by decide +kernel
theorem dX0_inCode_32 : decode cX0_inCode 32 = .ok (.aload_n 0, 1) := by decide +kernel
theorem dX0_inCode_33 : decode cX0_inCode 33 = .ok (.aload_n 0, 1) := by decide +kernel
theorem dX0_inCode_34 : decode cX0_inCode 34 = .ok (.getfield 27, 3) := by decide +kernel
theorem dX0_inCode_37 : decode cX0_inCode 37 = .ok (.getfield 64, 3) := by decide +kernel
theorem dX0_inCode_40 : decode cX0_inCode 40 = .ok (.invokevirtual 126, 3) := by decide +kernel
theorem dX0_inCode_43 : decode cX0_inCode 43 = .ok (.lreturn, 1) := by decide +kernel
theorem dX0_inCode_44 : decode cX0_inCode 44 = .ok (.aload_n 0, 1) := by decide +kernel
theorem dX0_inCode_45 : decode cX0_inCode 45 = .ok (.aload_n 0, 1) := by decide +kernel
theorem dX0_inCode_46 : decode cX0_inCode 46 = .ok (.getfield 27, 3) := by decide +kernel
theorem dX0_inCode_49 : decode cX0_inCode 49 = .ok (.getfield 64, 3) := by decide +kernel
theorem dX0_inCode_52 : decode cX0_inCode 52 = .ok (.aload_n 0, 1) := by decide +kernel
theorem dX0_inCode_53 : decode cX0_inCode 53 = .ok (.getfield 27, 3) := by decide +kernel
theorem dX0_inCode_56 : decode cX0_inCode 56 = .ok (.getfield 129, 3) := by decide +kernel
theorem dX0_inCode_59 : decode cX0_inCode 59 = .ok (.invokevirtual 132, 3) := by decide +kernel
theorem dX0_inCode_62 : decode cX0_inCode 62 = .ok (.lreturn, 1) := by decide +kernel
theorem dX0_inCode_63 : decode cX0_inCode 63 = .ok (.aload_n 0, 1) := by decide +kernel
theorem dX0_inCode_64 : decode cX0_inCode 64 = .ok (.aload_n 0, 1) := by decide +kernel
theorem dX0_inCode_65 : decode cX0_inCode 65 = .ok (.getfield 27, 3) := by decide +kernel
theorem dX0_inCode_68 : decode cX0_inCode 68 = .ok (.getfield 64, 3) := by decide +kernel
theorem dX0_inCode_71 : decode cX0_inCode 71 = .ok (.aload_n 0, 1) := by decide +kernel
theorem dX0_inCode_72 : decode cX0_inCode 72 = .ok (.getfield 27, 3) := by decide +kernel
theorem dX0_inCode_75 : decode cX0_inCode 75 = .ok (.getfield 129, 3) := by decide +kernel
theorem dX0_inCode_78 : decode cX0_inCode 78 = .ok (.invokevirtual 135, 3) := by decide +kernel
theorem dX0_inCode_81 : decode cX0_inCode 81 = .ok (.lreturn, 1) := by decide +kernel
theorem dX0_inCode_82 : decode cX0_inCode 82 = .ok (.ldc2_w 56, 3) := by decide +kernel
theorem dX0_inCode_85 : decode cX0_inCode 85 = .ok (.lreturn, 1) := by decide +kernel
theorem dX0_inTwoRail_0 : decode cX0_inTwoRail 0 = .ok (.iload_n 1, 1) := by decide +kernel
theorem dX0_inTwoRail_1 : decode cX0_inTwoRail 1 = .ok (.iconst 1, 1) := by decide +kernel
theorem dX0_inTwoRail_2 : decode cX0_inTwoRail 2 = .ok (.iand, 1) := by decide +kernel
theorem dX0_inTwoRail_3 : decode cX0_inTwoRail 3 = .ok (.iconst 1, 1) := by decide +kernel
theorem dX0_inTwoRail_4 : decode cX0_inTwoRail 4 = .ok (.if_icmp .ne 5, 3) := by decide +kernel
theorem dX0_inTwoRail_7 : decode cX0_inTwoRail 7 = .ok (.lconst 0, 1) := by decide +kernel
theorem dX0_inTwoRail_8 : decode cX0_inTwoRail 8 = .ok (.lreturn, 1) := by decide +kernel
theorem dX0_inTwoRail_9 : decode cX0_inTwoRail 9 = .ok (.ldc2_w 56, 3) := by decide +kernel
theorem dX0_inTwoRail_12 : decode cX0_inTwoRail 12 = .ok (.lstore_n 2, 1) := by decide +kernel
theorem dX0_inTwoRail_13 : decode cX0_inTwoRail 13 = .ok (.iconst 0, 1) := by decide +kernel
theorem dX0_inTwoRail_14 : decode cX0_inTwoRail 14 = .ok (.istore 4, 2) := by decide +kernel
theorem dX0_inTwoRail_16 : decode cX0_inTwoRail 16 = .ok (.iload 4, 2) := by decide +kernel
theorem dX0_inTwoRail_18 : decode cX0_inTwoRail 18 = .ok (.iconst 1, 1) := by decide +kernel
theorem dX0_inTwoRail_19 : decode cX0_inTwoRail 19 = .ok (.iadd, 1) := by decide +kernel
theorem dX0_inTwoRail_20 : decode cX0_inTwoRail 20 = .ok (.iload_n 1, 1) := by decide +kernel
theorem dX0_inTwoRail_21 : decode cX0_inTwoRail 21 = .ok (.if_icmp .ge 38, 3) := by decide +kernel
theorem dX0_inTwoRail_24 : decode cX0_inTwoRail 24 = .ok (.iload 4, 2) := by decide +kernel
theorem dX0_inTwoRail_26 : decode cX0_inTwoRail 26 = .ok (.iconst 1, 1) := by decide +kernel
theorem dX0_inTwoRail_27 : decode cX0_inTwoRail 27 = .ok (.iadd, 1) := by decide +kernel
theorem dX0_inTwoRail_28 : decode cX0_inTwoRail 28 = .ok (.bipush 6, 2) := by decide +kernel
theorem dX0_inTwoRail_30 : decode cX0_inTwoRail 30 = .ok (.if_icmp .ge 29, 3) := by decide +kernel
theorem dX0_inTwoRail_33 : decode cX0_inTwoRail 33 = .ok (.lload_n 2, 1) := by decide +kernel
theorem dX0_inTwoRail_34 : decode cX0_inTwoRail 34 = .ok (.aload_n 0, 1) := by decide +kernel
theorem dX0_inTwoRail_35 : decode cX0_inTwoRail 35 = .ok (.getfield 15, 3) := by decide +kernel
theorem dX0_inTwoRail_38 : decode cX0_inTwoRail 38 = .ok (.iload 4, 2) := by decide +kernel
theorem dX0_inTwoRail_40 : decode cX0_inTwoRail 40 = .ok (.laload, 1) := by decide +kernel
theorem dX0_inTwoRail_41 : decode cX0_inTwoRail 41 = .ok (.aload_n 0, 1) := by decide +kernel
theorem dX0_inTwoRail_42 : decode cX0_inTwoRail 42 = .ok (.getfield 15, 3) := by decide +kernel
theorem dX0_inTwoRail_45 : decode cX0_inTwoRail 45 = .ok (.iload 4, 2) := by decide +kernel
theorem dX0_inTwoRail_47 : decode cX0_inTwoRail 47 = .ok (.iconst 1, 1) := by decide +kernel
theorem dX0_inTwoRail_48 : decode cX0_inTwoRail 48 = .ok (.iadd, 1) := by decide +kernel
theorem dX0_inTwoRail_49 : decode cX0_inTwoRail 49 = .ok (.laload, 1) := by decide +kernel
theorem dX0_inTwoRail_50 : decode cX0_inTwoRail 50 = .ok (.lxor, 1) := by decide +kernel
theorem dX0_inTwoRail_51 : decode cX0_inTwoRail 51 = .ok (.land, 1) := by decide +kernel
theorem dX0_inTwoRail_52 : decode cX0_inTwoRail 52 = .ok (.lstore_n 2, 1) := by decide +kernel
theorem dX0_inTwoRail_53 : decode cX0_inTwoRail 53 = .ok (.iinc 4 2, 3) := by decide +kernel
theorem dX0_inTwoRail_56 : decode cX0_inTwoRail 56 = .ok (.goto (-40), 3) := by decide +kernel
theorem dX0_inTwoRail_59 : decode cX0_inTwoRail 59 = .ok (.lload_n 2, 1) := by decide +kernel
theorem dX0_inTwoRail_60 : decode cX0_inTwoRail 60 = .ok (.lreturn, 1) := by decide +kernel
set_option maxRecDepth 20000 in
theorem ggX0_inConstantWeight_X0_clearTally : GoodIn wsX0_inConstantWeight wsX0_clearTally := goodIn_r _ [8, 3, 16, 17, 18, 19, 20, 21] (by decide +kernel) (by decide +kernel)
set_option maxRecDepth 20000 in
theorem gX0_inConstantWeight_X0_clearTally : GoodIn wsX0_inConstantWeight (wsV RX0 138 RX0 yX0_clearTally wsX0_clearTally) := goodIn_app (goodIn_of _ (by decide +kernel)) ggX0_inConstantWeight_X0_clearTally
set_option maxRecDepth 20000 in
theorem ggX0_inConstantWeight_X0_addToTally : GoodIn wsX0_inConstantWeight wsX0_addToTally := goodIn_r _ [12, 3, 16, 17, 18, 19, 20, 21] (by decide +kernel) (by decide +kernel)
set_option maxRecDepth 20000 in
theorem gX0_inConstantWeight_X0_addToTally : GoodIn wsX0_inConstantWeight (wsV RX0 141 RX0 yX0_addToTally wsX0_addToTally) := goodIn_app (goodIn_of _ (by decide +kernel)) ggX0_inConstantWeight_X0_addToTally
set_option maxRecDepth 20000 in
theorem ggX0_inConstantWeight_X0_columnOfBit : GoodIn wsX0_inConstantWeight wsX0_columnOfBit := goodIn_r _ [15] (by decide +kernel) (by decide +kernel)
set_option maxRecDepth 20000 in
theorem gX0_inConstantWeight_X0_columnOfBit : GoodIn wsX0_inConstantWeight (va_wsS RX0 39 yX0_columnOfBit wsX0_columnOfBit) := goodIn_app (goodIn_of _ (by decide +kernel)) ggX0_inConstantWeight_X0_columnOfBit
theorem dX0_inConstantWeight_0 : decode cX0_inConstantWeight 0 = .ok (.aload_n 0, 1) := by decide +kernel
theorem dX0_inConstantWeight_1 : decode cX0_inConstantWeight 1 = .ok (.invokevirtual 138, 3) := by decide +kernel
theorem dX0_inConstantWeight_4 : decode cX0_inConstantWeight 4 = .ok (.iconst 0, 1) := by decide +kernel
theorem dX0_inConstantWeight_5 : decode cX0_inConstantWeight 5 = .ok (.istore_n 3, 1) := by decide +kernel
theorem dX0_inConstantWeight_6 : decode cX0_inConstantWeight 6 = .ok (.iload_n 3, 1) := by decide +kernel
theorem dX0_inConstantWeight_7 : decode cX0_inConstantWeight 7 = .ok (.iload_n 1, 1) := by decide +kernel
theorem dX0_inConstantWeight_8 : decode cX0_inConstantWeight 8 = .ok (.if_icmp .ge 25, 3) := by decide +kernel
theorem dX0_inConstantWeight_11 : decode cX0_inConstantWeight 11 = .ok (.iload_n 3, 1) := by decide +kernel
theorem dX0_inConstantWeight_12 : decode cX0_inConstantWeight 12 = .ok (.bipush 6, 2) := by decide +kernel
theorem dX0_inConstantWeight_14 : decode cX0_inConstantWeight 14 = .ok (.if_icmp .ge 19, 3) := by decide +kernel
theorem dX0_inConstantWeight_17 : decode cX0_inConstantWeight 17 = .ok (.aload_n 0, 1) := by decide +kernel
theorem dX0_inConstantWeight_18 : decode cX0_inConstantWeight 18 = .ok (.aload_n 0, 1) := by decide +kernel
theorem dX0_inConstantWeight_19 : decode cX0_inConstantWeight 19 = .ok (.getfield 15, 3) := by decide +kernel
theorem dX0_inConstantWeight_22 : decode cX0_inConstantWeight 22 = .ok (.iload_n 3, 1) := by decide +kernel
theorem dX0_inConstantWeight_23 : decode cX0_inConstantWeight 23 = .ok (.laload, 1) := by decide +kernel
theorem dX0_inConstantWeight_24 : decode cX0_inConstantWeight 24 = .ok (.invokevirtual 141, 3) := by decide +kernel
theorem dX0_inConstantWeight_27 : decode cX0_inConstantWeight 27 = .ok (.iinc 3 1, 3) := by decide +kernel
theorem dX0_inConstantWeight_30 : decode cX0_inConstantWeight 30 = .ok (.goto (-24), 3) := by decide +kernel
theorem dX0_inConstantWeight_33 : decode cX0_inConstantWeight 33 = .ok (.ldc2_w 56, 3) := by decide +kernel
theorem dX0_inConstantWeight_36 : decode cX0_inConstantWeight 36 = .ok (.lstore_n 3, 1) := by decide +kernel
theorem dX0_inConstantWeight_37 : decode cX0_inConstantWeight 37 = .ok (.iconst 0, 1) := by decide +kernel
theorem dX0_inConstantWeight_38 : decode cX0_inConstantWeight 38 = .ok (.istore 5, 2) := by decide +kernel
theorem dX0_inConstantWeight_40 : decode cX0_inConstantWeight 40 = .ok (.iload 5, 2) := by decide +kernel
theorem dX0_inConstantWeight_42 : decode cX0_inConstantWeight 42 = .ok (.iconst 3, 1) := by decide +kernel
theorem dX0_inConstantWeight_43 : decode cX0_inConstantWeight 43 = .ok (.if_icmp .ge 30, 3) := by decide +kernel
theorem dX0_inConstantWeight_46 : decode cX0_inConstantWeight 46 = .ok (.lload_n 3, 1) := by decide +kernel
theorem dX0_inConstantWeight_47 : decode cX0_inConstantWeight 47 = .ok (.aload_n 0, 1) := by decide +kernel
theorem dX0_inConstantWeight_48 : decode cX0_inConstantWeight 48 = .ok (.getfield 21, 3) := by decide +kernel
theorem dX0_inConstantWeight_51 : decode cX0_inConstantWeight 51 = .ok (.iload 5, 2) := by decide +kernel
theorem dX0_inConstantWeight_53 : decode cX0_inConstantWeight 53 = .ok (.laload, 1) := by decide +kernel
theorem dX0_inConstantWeight_54 : decode cX0_inConstantWeight 54 = .ok (.iload_n 2, 1) := by decide +kernel
theorem dX0_inConstantWeight_55 : decode cX0_inConstantWeight 55 = .ok (.iload 5, 2) := by decide +kernel
theorem dX0_inConstantWeight_57 : decode cX0_inConstantWeight 57 = .ok (.invokestatic 39, 3) := by decide +kernel
theorem dX0_inConstantWeight_60 : decode cX0_inConstantWeight 60 = .ok (.lxor, 1) := by decide +kernel
theorem dX0_inConstantWeight_61 : decode cX0_inConstantWeight 61 = .ok (.ldc2_w 56, 3) := by decide +kernel
theorem dX0_inConstantWeight_64 : decode cX0_inConstantWeight 64 = .ok (.lxor, 1) := by decide +kernel
theorem dX0_inConstantWeight_65 : decode cX0_inConstantWeight 65 = .ok (.land, 1) := by decide +kernel
theorem dX0_inConstantWeight_66 : decode cX0_inConstantWeight 66 = .ok (.lstore_n 3, 1) := by decide +kernel
theorem dX0_inConstantWeight_67 : decode cX0_inConstantWeight 67 = .ok (.iinc 5 1, 3) := by decide +kernel
theorem dX0_inConstantWeight_70 : decode cX0_inConstantWeight 70 = .ok (.goto (-30), 3) := by decide +kernel
theorem dX0_inConstantWeight_73 : decode cX0_inConstantWeight 73 = .ok (.lload_n 3, 1) := by decide +kernel
theorem dX0_inConstantWeight_74 : decode cX0_inConstantWeight 74 = .ok (.lreturn, 1) := by decide +kernel
set_option maxRecDepth 20000 in
theorem ggX0_inBerger_X0_clearTally : GoodIn wsX0_inBerger wsX0_clearTally := goodIn_r _ [8, 3, 17, 18, 19, 20, 21, 22] (by decide +kernel) (by decide +kernel)
set_option maxRecDepth 20000 in
theorem gX0_inBerger_X0_clearTally : GoodIn wsX0_inBerger (wsV RX0 138 RX0 yX0_clearTally wsX0_clearTally) := goodIn_app (goodIn_of _ (by decide +kernel)) ggX0_inBerger_X0_clearTally
set_option maxRecDepth 20000 in
theorem ggX0_inBerger_X0_addToTally : GoodIn wsX0_inBerger wsX0_addToTally := goodIn_r _ [12, 3, 17, 18, 19, 20, 21, 22] (by decide +kernel) (by decide +kernel)
set_option maxRecDepth 20000 in
theorem gX0_inBerger_X0_addToTally : GoodIn wsX0_inBerger (wsV RX0 141 RX0 yX0_addToTally wsX0_addToTally) := goodIn_app (goodIn_of _ (by decide +kernel)) ggX0_inBerger_X0_addToTally
set_option maxRecDepth 20000 in
theorem ggX0_inBerger_X0_toldDigit : GoodIn wsX0_inBerger wsX0_toldDigit := goodIn_r _ [16, 1, 17, 18, 19, 20, 21, 22] (by decide +kernel) (by decide +kernel)
set_option maxRecDepth 20000 in
theorem gX0_inBerger_X0_toldDigit : GoodIn wsX0_inBerger (wsV RX0 145 RX0 yX0_toldDigit wsX0_toldDigit) := goodIn_app (goodIn_of _ (by decide +kernel)) ggX0_inBerger_X0_toldDigit
theorem dX0_inBerger_0 : decode cX0_inBerger 0 = .ok (.iload_n 2, 1) := by decide +kernel
theorem dX0_inBerger_1 : decode cX0_inBerger 1 = .ok (.iload_n 1, 1) := by decide +kernel
theorem dX0_inBerger_2 : decode cX0_inBerger 2 = .ok (.if_icmp .le 5, 3) := by decide +kernel
theorem dX0_inBerger_5 : decode cX0_inBerger 5 = .ok (.lconst 0, 1) := by decide +kernel
theorem dX0_inBerger_6 : decode cX0_inBerger 6 = .ok (.lreturn, 1) := by decide +kernel
theorem dX0_inBerger_7 : decode cX0_inBerger 7 = .ok (.aload_n 0, 1) := by decide +kernel
theorem dX0_inBerger_8 : decode cX0_inBerger 8 = .ok (.invokevirtual 138, 3) := by decide +kernel
theorem dX0_inBerger_11 : decode cX0_inBerger 11 = .ok (.iconst 0, 1) := by decide +kernel
theorem dX0_inBerger_12 : decode cX0_inBerger 12 = .ok (.istore_n 3, 1) := by decide +kernel
theorem dX0_inBerger_13 : decode cX0_inBerger 13 = .ok (.iload_n 3, 1) := by decide +kernel
theorem dX0_inBerger_14 : decode cX0_inBerger 14 = .ok (.iload_n 2, 1) := by decide +kernel
theorem dX0_inBerger_15 : decode cX0_inBerger 15 = .ok (.if_icmp .ge 29, 3) := by decide +kernel
theorem dX0_inBerger_18 : decode cX0_inBerger 18 = .ok (.iload_n 3, 1) := by decide +kernel
theorem dX0_inBerger_19 : decode cX0_inBerger 19 = .ok (.bipush 6, 2) := by decide +kernel
theorem dX0_inBerger_21 : decode cX0_inBerger 21 = .ok (.if_icmp .ge 23, 3) := by decide +kernel
theorem dX0_inBerger_24 : decode cX0_inBerger 24 = .ok (.aload_n 0, 1) := by decide +kernel
theorem dX0_inBerger_25 : decode cX0_inBerger 25 = .ok (.aload_n 0, 1) := by decide +kernel
theorem dX0_inBerger_26 : decode cX0_inBerger 26 = .ok (.getfield 15, 3) := by decide +kernel
theorem dX0_inBerger_29 : decode cX0_inBerger 29 = .ok (.iload_n 3, 1) := by decide +kernel
theorem dX0_inBerger_30 : decode cX0_inBerger 30 = .ok (.laload, 1) := by decide +kernel
theorem dX0_inBerger_31 : decode cX0_inBerger 31 = .ok (.ldc2_w 56, 3) := by decide +kernel
theorem dX0_inBerger_34 : decode cX0_inBerger 34 = .ok (.lxor, 1) := by decide +kernel
theorem dX0_inBerger_35 : decode cX0_inBerger 35 = .ok (.invokevirtual 141, 3) := by decide +kernel
theorem dX0_inBerger_38 : decode cX0_inBerger 38 = .ok (.iinc 3 1, 3) := by decide +kernel
theorem dX0_inBerger_41 : decode cX0_inBerger 41 = .ok (.goto (-28), 3) := by decide +kernel
theorem dX0_inBerger_44 : decode cX0_inBerger 44 = .ok (.ldc2_w 56, 3) := by decide +kernel
theorem dX0_inBerger_47 : decode cX0_inBerger 47 = .ok (.lstore_n 3, 1) := by decide +kernel
theorem dX0_inBerger_48 : decode cX0_inBerger 48 = .ok (.iconst 0, 1) := by decide +kernel
theorem dX0_inBerger_49 : decode cX0_inBerger 49 = .ok (.istore 5, 2) := by decide +kernel
theorem dX0_inBerger_51 : decode cX0_inBerger 51 = .ok (.iload 5, 2) := by decide +kernel
theorem dX0_inBerger_53 : decode cX0_inBerger 53 = .ok (.bipush 6, 2) := by decide +kernel
theorem dX0_inBerger_55 : decode cX0_inBerger 55 = .ok (.if_icmp .ge 47, 3) := by decide +kernel
theorem dX0_inBerger_58 : decode cX0_inBerger 58 = .ok (.iload 5, 2) := by decide +kernel
theorem dX0_inBerger_60 : decode cX0_inBerger 60 = .ok (.iconst 3, 1) := by decide +kernel
theorem dX0_inBerger_61 : decode cX0_inBerger 61 = .ok (.if_icmp .ge 13, 3) := by decide +kernel
theorem dX0_inBerger_64 : decode cX0_inBerger 64 = .ok (.aload_n 0, 1) := by decide +kernel
theorem dX0_inBerger_65 : decode cX0_inBerger 65 = .ok (.getfield 21, 3) := by decide +kernel
theorem dX0_inBerger_68 : decode cX0_inBerger 68 = .ok (.iload 5, 2) := by decide +kernel
theorem dX0_inBerger_70 : decode cX0_inBerger 70 = .ok (.laload, 1) := by decide +kernel
theorem dX0_inBerger_71 : decode cX0_inBerger 71 = .ok (.goto 4, 3) := by decide +kernel
theorem dX0_inBerger_74 : decode cX0_inBerger 74 = .ok (.lconst 0, 1) := by decide +kernel
theorem dX0_inBerger_75 : decode cX0_inBerger 75 = .ok (.lstore 6, 2) := by decide +kernel
theorem dX0_inBerger_77 : decode cX0_inBerger 77 = .ok (.lload_n 3, 1) := by decide +kernel
theorem dX0_inBerger_78 : decode cX0_inBerger 78 = .ok (.lload 6, 2) := by decide +kernel
theorem dX0_inBerger_80 : decode cX0_inBerger 80 = .ok (.aload_n 0, 1) := by decide +kernel
theorem dX0_inBerger_81 : decode cX0_inBerger 81 = .ok (.iload_n 2, 1) := by decide +kernel
theorem dX0_inBerger_82 : decode cX0_inBerger 82 = .ok (.iload 5, 2) := by decide +kernel
theorem dX0_inBerger_84 : decode cX0_inBerger 84 = .ok (.iadd, 1) := by decide +kernel
theorem dX0_inBerger_85 : decode cX0_inBerger 85 = .ok (.iload_n 1, 1) := by decide +kernel
theorem dX0_inBerger_86 : decode cX0_inBerger 86 = .ok (.invokevirtual 145, 3) := by decide +kernel
theorem dX0_inBerger_89 : decode cX0_inBerger 89 = .ok (.lxor, 1) := by decide +kernel
theorem dX0_inBerger_90 : decode cX0_inBerger 90 = .ok (.ldc2_w 56, 3) := by decide +kernel
theorem dX0_inBerger_93 : decode cX0_inBerger 93 = .ok (.lxor, 1) := by decide +kernel
theorem dX0_inBerger_94 : decode cX0_inBerger 94 = .ok (.land, 1) := by decide +kernel
theorem dX0_inBerger_95 : decode cX0_inBerger 95 = .ok (.lstore_n 3, 1) := by decide +kernel
theorem dX0_inBerger_96 : decode cX0_inBerger 96 = .ok (.iinc 5 1, 3) := by decide +kernel
theorem dX0_inBerger_99 : decode cX0_inBerger 99 = .ok (.goto (-48), 3) := by decide +kernel
theorem dX0_inBerger_102 : decode cX0_inBerger 102 = .ok (.lload_n 3, 1) := by decide +kernel
theorem dX0_inBerger_103 : decode cX0_inBerger 103 = .ok (.lreturn, 1) := by decide +kernel
theorem dX0_toldDigit_0 : decode cX0_toldDigit 0 = .ok (.iload_n 1, 1) := by decide +kernel
theorem dX0_toldDigit_1 : decode cX0_toldDigit 1 = .ok (.ifCond .lt 14, 3) := by decide +kernel
theorem dX0_toldDigit_4 : decode cX0_toldDigit 4 = .ok (.iload_n 1, 1) := by decide +kernel
theorem dX0_toldDigit_5 : decode cX0_toldDigit 5 = .ok (.iload_n 2, 1) := by decide +kernel
theorem dX0_toldDigit_6 : decode cX0_toldDigit 6 = .ok (.if_icmp .ge 9, 3) := by decide +kernel
theorem dX0_toldDigit_9 : decode cX0_toldDigit 9 = .ok (.iload_n 1, 1) := by decide +kernel
theorem dX0_toldDigit_10 : decode cX0_toldDigit 10 = .ok (.bipush 6, 2) := by decide +kernel
theorem dX0_toldDigit_12 : decode cX0_toldDigit 12 = .ok (.if_icmp .lt 5, 3) := by decide +kernel
theorem dX0_toldDigit_15 : decode cX0_toldDigit 15 = .ok (.lconst 0, 1) := by decide +kernel
theorem dX0_toldDigit_16 : decode cX0_toldDigit 16 = .ok (.lreturn, 1) := by decide +kernel
theorem dX0_toldDigit_17 : decode cX0_toldDigit 17 = .ok (.aload_n 0, 1) := by decide +kernel
theorem dX0_toldDigit_18 : decode cX0_toldDigit 18 = .ok (.getfield 15, 3) := by decide +kernel
theorem dX0_toldDigit_21 : decode cX0_toldDigit 21 = .ok (.iload_n 1, 1) := by decide +kernel
theorem dX0_toldDigit_22 : decode cX0_toldDigit 22 = .ok (.laload, 1) := by decide +kernel
theorem dX0_toldDigit_23 : decode cX0_toldDigit 23 = .ok (.lreturn, 1) := by decide +kernel
theorem dX0_clearTally_0 : decode cX0_clearTally 0 = .ok (.iconst 0, 1) := by decide +kernel
theorem dX0_clearTally_1 : decode cX0_clearTally 1 = .ok (.istore_n 1, 1) := by decide +kernel
theorem dX0_clearTally_2 : decode cX0_clearTally 2 = .ok (.iload_n 1, 1) := by decide +kernel
theorem dX0_clearTally_3 : decode cX0_clearTally 3 = .ok (.iconst 3, 1) := by decide +kernel
theorem dX0_clearTally_4 : decode cX0_clearTally 4 = .ok (.if_icmp .ge 16, 3) := by decide +kernel
theorem dX0_clearTally_7 : decode cX0_clearTally 7 = .ok (.aload_n 0, 1) := by decide +kernel
theorem dX0_clearTally_8 : decode cX0_clearTally 8 = .ok (.getfield 21, 3) := by decide +kernel
theorem dX0_clearTally_11 : decode cX0_clearTally 11 = .ok (.iload_n 1, 1) := by decide +kernel
theorem dX0_clearTally_12 : decode cX0_clearTally 12 = .ok (.lconst 0, 1) := by decide +kernel
theorem dX0_clearTally_13 : decode cX0_clearTally 13 = .ok (.lastore, 1) := by decide +kernel
theorem dX0_clearTally_14 : decode cX0_clearTally 14 = .ok (.iinc 1 1, 3) := by decide +kernel
theorem dX0_clearTally_17 : decode cX0_clearTally 17 = .ok (.goto (-15), 3) := by decide +kernel
theorem dX0_clearTally_20 : decode cX0_clearTally 20 = .ok (.return_, 1) := by decide +kernel
theorem dX0_addToTally_0 : decode cX0_addToTally 0 = .ok (.lload_n 1, 1) := by decide +kernel
theorem dX0_addToTally_1 : decode cX0_addToTally 1 = .ok (.lstore_n 3, 1) := by decide +kernel
theorem dX0_addToTally_2 : decode cX0_addToTally 2 = .ok (.iconst 0, 1) := by decide +kernel
theorem dX0_addToTally_3 : decode cX0_addToTally 3 = .ok (.istore 5, 2) := by decide +kernel
theorem dX0_addToTally_5 : decode cX0_addToTally 5 = .ok (.iload 5, 2) := by decide +kernel
theorem dX0_addToTally_7 : decode cX0_addToTally 7 = .ok (.iconst 3, 1) := by decide +kernel
theorem dX0_addToTally_8 : decode cX0_addToTally 8 = .ok (.if_icmp .ge 34, 3) := by decide +kernel
theorem dX0_addToTally_11 : decode cX0_addToTally 11 = .ok (.aload_n 0, 1) := by decide +kernel
theorem dX0_addToTally_12 : decode cX0_addToTally 12 = .ok (.getfield 21, 3) := by decide +kernel
theorem dX0_addToTally_15 : decode cX0_addToTally 15 = .ok (.iload 5, 2) := by decide +kernel
theorem dX0_addToTally_17 : decode cX0_addToTally 17 = .ok (.laload, 1) := by decide +kernel
theorem dX0_addToTally_18 : decode cX0_addToTally 18 = .ok (.lstore 6, 2) := by decide +kernel
theorem dX0_addToTally_20 : decode cX0_addToTally 20 = .ok (.aload_n 0, 1) := by decide +kernel
theorem dX0_addToTally_21 : decode cX0_addToTally 21 = .ok (.getfield 21, 3) := by decide +kernel
theorem dX0_addToTally_24 : decode cX0_addToTally 24 = .ok (.iload 5, 2) := by decide +kernel
theorem dX0_addToTally_26 : decode cX0_addToTally 26 = .ok (.lload 6, 2) := by decide +kernel
theorem dX0_addToTally_28 : decode cX0_addToTally 28 = .ok (.lload_n 3, 1) := by decide +kernel
theorem dX0_addToTally_29 : decode cX0_addToTally 29 = .ok (.lxor, 1) := by decide +kernel
theorem dX0_addToTally_30 : decode cX0_addToTally 30 = .ok (.lastore, 1) := by decide +kernel
theorem dX0_addToTally_31 : decode cX0_addToTally 31 = .ok (.lload_n 3, 1) := by decide +kernel
theorem dX0_addToTally_32 : decode cX0_addToTally 32 = .ok (.lload 6, 2) := by decide +kernel
theorem dX0_addToTally_34 : decode cX0_addToTally 34 = .ok (.land, 1) := by decide +kernel
theorem dX0_addToTally_35 : decode cX0_addToTally 35 = .ok (.lstore_n 3, 1) := by decide +kernel
theorem dX0_addToTally_36 : decode cX0_addToTally 36 = .ok (.iinc 5 1, 3) := by decide +kernel
theorem dX0_addToTally_39 : decode cX0_addToTally 39 = .ok (.goto (-34), 3) := by decide +kernel
theorem dX0_addToTally_42 : decode cX0_addToTally 42 = .ok (.return_, 1) := by decide +kernel
theorem dX1_init_0 : decode cX1_init 0 = .ok (.aload_n 0, 1) := by decide +kernel
theorem dX1_init_1 : decode cX1_init 1 = .ok (.invokespecial 3, 3) := by decide +kernel
theorem dX1_init_4 : decode cX1_init 4 = .ok (.aload_n 0, 1) := by decide +kernel
theorem dX1_init_5 : decode cX1_init 5 = .ok (.bipush 30, 2) := by decide +kernel
theorem dX1_init_7 : decode cX1_init 7 = .ok (.newarray .int, 2) := by decide +kernel
theorem dX1_init_9 : decode cX1_init 9 = .ok (.putfield 9, 3) := by decide +kernel
theorem dX1_init_12 : decode cX1_init 12 = .ok (.aload_n 0, 1) := by decide +kernel
theorem dX1_init_13 : decode cX1_init 13 = .ok (.bipush 30, 2) := by decide +kernel
theorem dX1_init_15 : decode cX1_init 15 = .ok (.newarray .int, 2) := by decide +kernel
theorem dX1_init_17 : decode cX1_init 17 = .ok (.putfield 15, 3) := by decide +kernel
theorem dX1_init_20 : decode cX1_init 20 = .ok (.aload_n 0, 1) := by decide +kernel
theorem dX1_init_21 : decode cX1_init 21 = .ok (.bipush 30, 2) := by decide +kernel
theorem dX1_init_23 : decode cX1_init 23 = .ok (.newarray .int, 2) := by decide +kernel
theorem dX1_init_25 : decode cX1_init 25 = .ok (.putfield 18, 3) := by decide +kernel
theorem dX1_init_28 : decode cX1_init 28 = .ok (.aload_n 0, 1) := by decide +kernel
theorem dX1_init_29 : decode cX1_init 29 = .ok (.bipush 6, 2) := by decide +kernel
theorem dX1_init_31 : decode cX1_init 31 = .ok (.newarray .int, 2) := by decide +kernel
theorem dX1_init_33 : decode cX1_init 33 = .ok (.putfield 21, 3) := by decide +kernel
theorem dX1_init_36 : decode cX1_init 36 = .ok (.return_, 1) := by decide +kernel
theorem dX1_copyFrom_0 : decode cX1_copyFrom 0 = .ok (.aload_n 1, 1) := by decide +kernel
theorem dX1_copyFrom_1 : decode cX1_copyFrom 1 = .ok (.getfield 9, 3) := by decide +kernel
theorem dX1_copyFrom_4 : decode cX1_copyFrom 4 = .ok (.iconst 0, 1) := by decide +kernel
theorem dX1_copyFrom_5 : decode cX1_copyFrom 5 = .ok (.aload_n 0, 1) := by decide +kernel
theorem dX1_copyFrom_6 : decode cX1_copyFrom 6 = .ok (.getfield 9, 3) := by decide +kernel
theorem dX1_copyFrom_9 : decode cX1_copyFrom 9 = .ok (.iconst 0, 1) := by decide +kernel
theorem dX1_copyFrom_10 : decode cX1_copyFrom 10 = .ok (.bipush 30, 2) := by decide +kernel
theorem dX1_copyFrom_12 : decode cX1_copyFrom 12 = .ok (.invokestatic 24, 3) := by decide +kernel
theorem dX1_copyFrom_15 : decode cX1_copyFrom 15 = .ok (.aload_n 1, 1) := by decide +kernel
theorem dX1_copyFrom_16 : decode cX1_copyFrom 16 = .ok (.getfield 15, 3) := by decide +kernel
theorem dX1_copyFrom_19 : decode cX1_copyFrom 19 = .ok (.iconst 0, 1) := by decide +kernel
theorem dX1_copyFrom_20 : decode cX1_copyFrom 20 = .ok (.aload_n 0, 1) := by decide +kernel
theorem dX1_copyFrom_21 : decode cX1_copyFrom 21 = .ok (.getfield 15, 3) := by decide +kernel
theorem dX1_copyFrom_24 : decode cX1_copyFrom 24 = .ok (.iconst 0, 1) := by decide +kernel
theorem dX1_copyFrom_25 : decode cX1_copyFrom 25 = .ok (.bipush 30, 2) := by decide +kernel
theorem dX1_copyFrom_27 : decode cX1_copyFrom 27 = .ok (.invokestatic 24, 3) := by decide +kernel
theorem dX1_copyFrom_30 : decode cX1_copyFrom 30 = .ok (.aload_n 1, 1) := by decide +kernel
theorem dX1_copyFrom_31 : decode cX1_copyFrom 31 = .ok (.getfield 18, 3) := by decide +kernel
theorem dX1_copyFrom_34 : decode cX1_copyFrom 34 = .ok (.iconst 0, 1) := by decide +kernel
theorem dX1_copyFrom_35 : decode cX1_copyFrom 35 = .ok (.aload_n 0, 1) := by decide +kernel
theorem dX1_copyFrom_36 : decode cX1_copyFrom 36 = .ok (.getfield 18, 3) := by decide +kernel
theorem dX1_copyFrom_39 : decode cX1_copyFrom 39 = .ok (.iconst 0, 1) := by decide +kernel
theorem dX1_copyFrom_40 : decode cX1_copyFrom 40 = .ok (.bipush 30, 2) := by decide +kernel
theorem dX1_copyFrom_42 : decode cX1_copyFrom 42 = .ok (.invokestatic 24, 3) := by decide +kernel
theorem dX1_copyFrom_45 : decode cX1_copyFrom 45 = .ok (.aload_n 1, 1) := by decide +kernel
theorem dX1_copyFrom_46 : decode cX1_copyFrom 46 = .ok (.getfield 21, 3) := by decide +kernel
theorem dX1_copyFrom_49 : decode cX1_copyFrom 49 = .ok (.iconst 0, 1) := by decide +kernel
theorem dX1_copyFrom_50 : decode cX1_copyFrom 50 = .ok (.aload_n 0, 1) := by decide +kernel
theorem dX1_copyFrom_51 : decode cX1_copyFrom 51 = .ok (.getfield 21, 3) := by decide +kernel
theorem dX1_copyFrom_54 : decode cX1_copyFrom 54 = .ok (.iconst 0, 1) := by decide +kernel
theorem dX1_copyFrom_55 : decode cX1_copyFrom 55 = .ok (.bipush 6, 2) := by decide +kernel
theorem dX1_copyFrom_57 : decode cX1_copyFrom 57 = .ok (.invokestatic 24, 3) := by decide +kernel
theorem dX1_copyFrom_60 : decode cX1_copyFrom 60 = .ok (.aload_n 0, 1) := by decide +kernel
theorem dX1_copyFrom_61 : decode cX1_copyFrom 61 = .ok (.aload_n 1, 1) := by decide +kernel
theorem dX1_copyFrom_62 : decode cX1_copyFrom 62 = .ok (.getfield 30, 3) := by decide +kernel
theorem dX1_copyFrom_65 : decode cX1_copyFrom 65 = .ok (.putfield 30, 3) := by decide +kernel
theorem dX1_copyFrom_68 : decode cX1_copyFrom 68 = .ok (.aload_n 0, 1) := by decide +kernel
theorem dX1_copyFrom_69 : decode cX1_copyFrom 69 = .ok (.aload_n 1, 1) := by decide +kernel
theorem dX1_copyFrom_70 : decode cX1_copyFrom 70 = .ok (.getfield 34, 3) := by decide +kernel
theorem dX1_copyFrom_73 : decode cX1_copyFrom 73 = .ok (.putfield 34, 3) := by decide +kernel
theorem dX1_copyFrom_76 : decode cX1_copyFrom 76 = .ok (.aload_n 0, 1) := by decide +kernel
theorem dX1_copyFrom_77 : decode cX1_copyFrom 77 = .ok (.aload_n 1, 1) := by decide +kernel
theorem dX1_copyFrom_78 : decode cX1_copyFrom 78 = .ok (.getfield 37, 3) := by decide +kernel
theorem dX1_copyFrom_81 : decode cX1_copyFrom 81 = .ok (.putfield 37, 3) := by decide +kernel
theorem dX1_copyFrom_84 : decode cX1_copyFrom 84 = .ok (.aload_n 0, 1) := by decide +kernel
theorem dX1_copyFrom_85 : decode cX1_copyFrom 85 = .ok (.aload_n 1, 1) := by decide +kernel
theorem dX1_copyFrom_86 : decode cX1_copyFrom 86 = .ok (.getfield 40, 3) := by decide +kernel
theorem dX1_copyFrom_89 : decode cX1_copyFrom 89 = .ok (.putfield 40, 3) := by decide +kernel
theorem dX1_copyFrom_92 : decode cX1_copyFrom 92 = .ok (.aload_n 0, 1) := by decide +kernel
theorem dX1_copyFrom_93 : decode cX1_copyFrom 93 = .ok (.aload_n 1, 1) := by decide +kernel
theorem dX1_copyFrom_94 : decode cX1_copyFrom 94 = .ok (.getfield 44, 3) := by decide +kernel
theorem dX1_copyFrom_97 : decode cX1_copyFrom 97 = .ok (.putfield 44, 3) := by decide +kernel
theorem dX1_copyFrom_100 : decode cX1_copyFrom 100 = .ok (.aload_n 0, 1) := by decide +kernel
theorem dX1_copyFrom_101 : decode cX1_copyFrom 101 = .ok (.aload_n 1, 1) := by decide +kernel
theorem dX1_copyFrom_102 : decode cX1_copyFrom 102 = .ok (.getfield 47, 3) := by decide +kernel
theorem dX1_copyFrom_105 : decode cX1_copyFrom 105 = .ok (.putfield 47, 3) := by decide +kernel
theorem dX1_copyFrom_108 : decode cX1_copyFrom 108 = .ok (.return_, 1) := by decide +kernel
theorem dX1_begin_0 : decode cX1_begin 0 = .ok (.aload_n 0, 1) := by decide +kernel
theorem dX1_begin_1 : decode cX1_begin 1 = .ok (.iload_n 1, 1) := by decide +kernel
theorem dX1_begin_2 : decode cX1_begin 2 = .ok (.putfield 30, 3) := by decide +kernel
theorem dX1_begin_5 : decode cX1_begin 5 = .ok (.aload_n 0, 1) := by decide +kernel
theorem dX1_begin_6 : decode cX1_begin 6 = .ok (.iload_n 1, 1) := by decide +kernel
theorem dX1_begin_7 : decode cX1_begin 7 = .ok (.putfield 34, 3) := by decide +kernel
theorem dX1_begin_10 : decode cX1_begin 10 = .ok (.aload_n 0, 1) := by decide +kernel
theorem dX1_begin_11 : decode cX1_begin 11 = .ok (.iconst 0, 1) := by decide +kernel
theorem dX1_begin_12 : decode cX1_begin 12 = .ok (.putfield 37, 3) := by decide +kernel
theorem dX1_begin_15 : decode cX1_begin 15 = .ok (.aload_n 0, 1) := by decide +kernel
theorem dX1_begin_16 : decode cX1_begin 16 = .ok (.lconst 0, 1) := by decide +kernel
theorem dX1_begin_17 : decode cX1_begin 17 = .ok (.putfield 40, 3) := by decide +kernel
theorem dX1_begin_20 : decode cX1_begin 20 = .ok (.iconst 0, 1) := by decide +kernel
theorem dX1_begin_21 : decode cX1_begin 21 = .ok (.istore_n 2, 1) := by decide +kernel
theorem dX1_begin_22 : decode cX1_begin 22 = .ok (.iload_n 2, 1) := by decide +kernel
theorem dX1_begin_23 : decode cX1_begin 23 = .ok (.iload_n 1, 1) := by decide +kernel
theorem dX1_begin_24 : decode cX1_begin 24 = .ok (.if_icmp .ge 23, 3) := by decide +kernel
theorem dX1_begin_27 : decode cX1_begin 27 = .ok (.iload_n 2, 1) := by decide +kernel
theorem dX1_begin_28 : decode cX1_begin 28 = .ok (.bipush 30, 2) := by decide +kernel
theorem dX1_begin_30 : decode cX1_begin 30 = .ok (.if_icmp .ge 17, 3) := by decide +kernel
theorem dX1_begin_33 : decode cX1_begin 33 = .ok (.aload_n 0, 1) := by decide +kernel
theorem dX1_begin_34 : decode cX1_begin 34 = .ok (.getfield 9, 3) := by decide +kernel
theorem dX1_begin_37 : decode cX1_begin 37 = .ok (.iload_n 2, 1) := by decide +kernel
theorem dX1_begin_38 : decode cX1_begin 38 = .ok (.bipush 6, 2) := by decide +kernel
theorem dX1_begin_40 : decode cX1_begin 40 = .ok (.iastore, 1) := by decide +kernel
theorem dX1_begin_41 : decode cX1_begin 41 = .ok (.iinc 2 1, 3) := by decide +kernel
theorem dX1_begin_44 : decode cX1_begin 44 = .ok (.goto (-22), 3) := by decide +kernel
theorem dX1_begin_47 : decode cX1_begin 47 = .ok (.return_, 1) := by decide +kernel
theorem dX1_gates_0 : decode cX1_gates 0 = .ok (.aload_n 0, 1) := by decide +kernel
theorem dX1_gates_1 : decode cX1_gates 1 = .ok (.getfield 34, 3) := by decide +kernel
theorem dX1_gates_4 : decode cX1_gates 4 = .ok (.aload_n 0, 1) := by decide +kernel
theorem dX1_gates_5 : decode cX1_gates 5 = .ok (.getfield 30, 3) := by decide +kernel
theorem dX1_gates_8 : decode cX1_gates 8 = .ok (.isub, 1) := by decide +kernel
theorem dX1_gates_9 : decode cX1_gates 9 = .ok (.ireturn, 1) := by decide +kernel
theorem dX1_faults_0 : decode cX1_faults 0 = .ok (.iconst 2, 1) := by decide +kernel
theorem dX1_faults_1 : decode cX1_faults 1 = .ok (.aload_n 0, 1) := by decide +kernel
theorem dX1_faults_2 : decode cX1_faults 2 = .ok (.getfield 34, 3) := by decide +kernel
theorem dX1_faults_5 : decode cX1_faults 5 = .ok (.imul, 1) := by decide +kernel
theorem dX1_faults_6 : decode cX1_faults 6 = .ok (.ireturn, 1) := by decide +kernel
theorem dX1_words_0 : decode cX1_words 0 = .ok (.ldc2_w 50, 3) := by decide +kernel
theorem dX1_words_3 : decode cX1_words 3 = .ok (.bipush 64, 2) := by decide +kernel
theorem dX1_words_5 : decode cX1_words 5 = .ok (.iconst 1, 1) := by decide +kernel
theorem dX1_words_6 : decode cX1_words 6 = .ok (.aload_n 0, 1) := by decide +kernel
theorem dX1_words_7 : decode cX1_words 7 = .ok (.getfield 30, 3) := by decide +kernel
theorem dX1_words_10 : decode cX1_words 10 = .ok (.ishl, 1) := by decide +kernel
theorem dX1_words_11 : decode cX1_words 11 = .ok (.isub, 1) := by decide +kernel
theorem dX1_words_12 : decode cX1_words 12 = .ok (.lushr, 1) := by decide +kernel
theorem dX1_words_13 : decode cX1_words 13 = .ok (.lreturn, 1) := by decide +kernel
theorem dX1_hasNode_0 : decode cX1_hasNode 0 = .ok (.iload_n 1, 1) := by decide +kernel
theorem dX1_hasNode_1 : decode cX1_hasNode 1 = .ok (.ifCond .lt 15, 3) := by decide +kernel
theorem dX1_hasNode_4 : decode cX1_hasNode 4 = .ok (.iload_n 1, 1) := by decide +kernel
theorem dX1_hasNode_5 : decode cX1_hasNode 5 = .ok (.aload_n 0, 1) := by decide +kernel
theorem dX1_hasNode_6 : decode cX1_hasNode 6 = .ok (.getfield 34, 3) := by decide +kernel
theorem dX1_hasNode_9 : decode cX1_hasNode 9 = .ok (.if_icmp .ge 7, 3) := by decide +kernel
theorem dX1_hasNode_12 : decode cX1_hasNode 12 = .ok (.iconst 1, 1) := by decide +kernel
theorem dX1_hasNode_13 : decode cX1_hasNode 13 = .ok (.goto 4, 3) := by decide +kernel
theorem dX1_hasNode_16 : decode cX1_hasNode 16 = .ok (.iconst 0, 1) := by decide +kernel
theorem dX1_hasNode_17 : decode cX1_hasNode 17 = .ok (.ireturn, 1) := by decide +kernel
set_option maxRecDepth 20000 in
theorem ggX1_hasFault_X1_faults : GoodIn wsX1_hasFault wsX1_faults := goodIn_r _ [5, 6, 7, 8, 9, 10, 11, 12, 13, 14, 15, 16] (by decide +kernel) (by decide +kernel)
set_option maxRecDepth 20000 in
theorem gX1_hasFault_X1_faults : GoodIn wsX1_hasFault (wsV RX1 52 RX1 yX1_faults wsX1_faults) := goodIn_app (goodIn_of _ (by decide +kernel)) ggX1_hasFault_X1_faults
theorem dX1_hasFault_0 : decode cX1_hasFault 0 = .ok (.iload_n 1, 1) := by decide +kernel
theorem dX1_hasFault_1 : decode cX1_hasFault 1 = .ok (.ifCond .lt 15, 3) := by decide +kernel
theorem dX1_hasFault_4 : decode cX1_hasFault 4 = .ok (.iload_n 1, 1) := by decide +kernel
theorem dX1_hasFault_5 : decode cX1_hasFault 5 = .ok (.aload_n 0, 1) := by decide +kernel
theorem dX1_hasFault_6 : decode cX1_hasFault 6 = .ok (.invokevirtual 52, 3) := by decide +kernel
theorem dX1_hasFault_9 : decode cX1_hasFault 9 = .ok (.if_icmp .ge 7, 3) := by decide +kernel
theorem dX1_hasFault_12 : decode cX1_hasFault 12 = .ok (.iconst 1, 1) := by decide +kernel
theorem dX1_hasFault_13 : decode cX1_hasFault 13 = .ok (.goto 4, 3) := by decide +kernel
theorem dX1_hasFault_16 : decode cX1_hasFault 16 = .ok (.iconst 0, 1) := by decide +kernel
theorem dX1_hasFault_17 : decode cX1_hasFault 17 = .ok (.ireturn, 1) := by decide +kernel
theorem dX1_hasWord_0 : decode cX1_hasWord 0 = .ok (.iload_n 1, 1) := by decide +kernel
theorem dX1_hasWord_1 : decode cX1_hasWord 1 = .ok (.ifCond .lt 17, 3) := by decide +kernel
theorem dX1_hasWord_4 : decode cX1_hasWord 4 = .ok (.iload_n 1, 1) := by decide +kernel
theorem dX1_hasWord_5 : decode cX1_hasWord 5 = .ok (.iconst 1, 1) := by decide +kernel
theorem dX1_hasWord_6 : decode cX1_hasWord 6 = .ok (.aload_n 0, 1) := by decide +kernel
theorem dX1_hasWord_7 : decode cX1_hasWord 7 = .ok (.getfield 30, 3) := by decide +kernel
theorem dX1_hasWord_10 : decode cX1_hasWord 10 = .ok (.ishl, 1) := by decide +kernel
theorem dX1_hasWord_11 : decode cX1_hasWord 11 = .ok (.if_icmp .ge 7, 3) := by decide +kernel
theorem dX1_hasWord_14 : decode cX1_hasWord 14 = .ok (.iconst 1, 1) := by decide +kernel
theorem dX1_hasWord_15 : decode cX1_hasWord 15 = .ok (.goto 4, 3) := by decide +kernel
theorem dX1_hasWord_18 : decode cX1_hasWord 18 = .ok (.iconst 0, 1) := by decide +kernel
theorem dX1_hasWord_19 : decode cX1_hasWord 19 = .ok (.ireturn, 1) := by decide +kernel
set_option maxRecDepth 20000 in
theorem ggX1_hasRoomFor_X1_gates : GoodIn wsX1_hasRoomFor wsX1_gates := goodIn_r _ [5, 6, 7, 8, 9, 10, 11, 12, 13, 14, 15, 16, 17] (by decide +kernel) (by decide +kernel)
set_option maxRecDepth 20000 in
theorem gX1_hasRoomFor_X1_gates : GoodIn wsX1_hasRoomFor (wsV RX1 56 RX1 yX1_gates wsX1_gates) := goodIn_app (goodIn_of _ (by decide +kernel)) ggX1_hasRoomFor_X1_gates
theorem dX1_hasRoomFor_0 : decode cX1_hasRoomFor 0 = .ok (.aload_n 0, 1) := by decide +kernel
theorem dX1_hasRoomFor_1 : decode cX1_hasRoomFor 1 = .ok (.invokevirtual 56, 3) := by decide +kernel
theorem dX1_hasRoomFor_4 : decode cX1_hasRoomFor 4 = .ok (.iload_n 1, 1) := by decide +kernel
theorem dX1_hasRoomFor_5 : decode cX1_hasRoomFor 5 = .ok (.iadd, 1) := by decide +kernel
theorem dX1_hasRoomFor_6 : decode cX1_hasRoomFor 6 = .ok (.bipush 24, 2) := by decide +kernel
theorem dX1_hasRoomFor_8 : decode cX1_hasRoomFor 8 = .ok (.if_icmp .gt 7, 3) := by decide +kernel
theorem dX1_hasRoomFor_11 : decode cX1_hasRoomFor 11 = .ok (.iconst 1, 1) := by decide +kernel
theorem dX1_hasRoomFor_12 : decode cX1_hasRoomFor 12 = .ok (.goto 4, 3) := by decide +kernel
theorem dX1_hasRoomFor_15 : decode cX1_hasRoomFor 15 = .ok (.iconst 0, 1) := by decide +kernel
theorem dX1_hasRoomFor_16 : decode cX1_hasRoomFor 16 = .ok (.ireturn, 1) := by decide +kernel
set_option maxRecDepth 20000 in
theorem ggX1_isOutput_X1_nodeOfOutput : GoodIn wsX1_isOutput wsX1_nodeOfOutput := goodIn_r _ [6, 7, 8, 9, 10, 11, 12, 13, 14, 15, 16, 17] (by decide +kernel) (by decide +kernel)
set_option maxRecDepth 20000 in
theorem gX1_isOutput_X1_nodeOfOutput : GoodIn wsX1_isOutput (wsV RX1 59 RX1 yX1_nodeOfOutput wsX1_nodeOfOutput) := goodIn_app (goodIn_of _ (by decide +kernel)) ggX1_isOutput_X1_nodeOfOutput
theorem dX1_isOutput_0 : decode cX1_isOutput 0 = .ok (.iconst 0, 1) := by decide +kernel
theorem dX1_isOutput_1 : decode cX1_isOutput 1 = .ok (.istore_n 2, 1) := by decide +kernel
theorem dX1_isOutput_2 : decode cX1_isOutput 2 = .ok (.iload_n 2, 1) := by decide +kernel
theorem dX1_isOutput_3 : decode cX1_isOutput 3 = .ok (.aload_n 0, 1) := by decide +kernel
theorem dX1_isOutput_4 : decode cX1_isOutput 4 = .ok (.getfield 37, 3) := by decide +kernel
theorem dX1_isOutput_7 : decode cX1_isOutput 7 = .ok (.if_icmp .ge 20, 3) := by decide +kernel
theorem dX1_isOutput_10 : decode cX1_isOutput 10 = .ok (.aload_n 0, 1) := by decide +kernel
theorem dX1_isOutput_11 : decode cX1_isOutput 11 = .ok (.iload_n 2, 1) := by decide +kernel
theorem dX1_isOutput_12 : decode cX1_isOutput 12 = .ok (.invokevirtual 59, 3) := by decide +kernel
theorem dX1_isOutput_15 : decode cX1_isOutput 15 = .ok (.iload_n 1, 1) := by decide +kernel
theorem dX1_isOutput_16 : decode cX1_isOutput 16 = .ok (.if_icmp .ne 5, 3) := by decide +kernel
theorem dX1_isOutput_19 : decode cX1_isOutput 19 = .ok (.iconst 1, 1) := by decide +kernel
theorem dX1_isOutput_20 : decode cX1_isOutput 20 = .ok (.ireturn, 1) := by decide +kernel
theorem dX1_isOutput_21 : decode cX1_isOutput 21 = .ok (.iinc 2 1, 3) := by decide +kernel
theorem dX1_isOutput_24 : decode cX1_isOutput 24 = .ok (.goto (-22), 3) := by decide +kernel
theorem dX1_isOutput_27 : decode cX1_isOutput 27 = .ok (.iconst 0, 1) := by decide +kernel
theorem dX1_isOutput_28 : decode cX1_isOutput 28 = .ok (.ireturn, 1) := by decide +kernel
theorem dX1_putGate_0 : decode cX1_putGate 0 = .ok (.aload_n 0, 1) := by decide +kernel
theorem dX1_putGate_1 : decode cX1_putGate 1 = .ok (.getfield 34, 3) := by decide +kernel
theorem dX1_putGate_4 : decode cX1_putGate 4 = .ok (.istore 4, 2) := by decide +kernel
theorem dX1_putGate_6 : decode cX1_putGate 6 = .ok (.iload 4, 2) := by decide +kernel
theorem dX1_putGate_8 : decode cX1_putGate 8 = .ok (.ifCond .lt 10, 3) := by decide +kernel
theorem dX1_putGate_11 : decode cX1_putGate 11 = .ok (.iload 4, 2) := by decide +kernel
theorem dX1_putGate_13 : decode cX1_putGate 13 = .ok (.bipush 30, 2) := by decide +kernel
theorem dX1_putGate_15 : decode cX1_putGate 15 = .ok (.if_icmp .lt 6, 3) := by decide +kernel
theorem dX1_putGate_18 : decode cX1_putGate 18 = .ok (.bipush (-103), 2) := by decide +kernel
theorem dX1_putGate_20 : decode cX1_putGate 20 = .ok (.ireturn, 1) := by decide +kernel
theorem dX1_putGate_21 : decode cX1_putGate 21 = .ok (.aload_n 0, 1) := by decide +kernel
theorem dX1_putGate_22 : decode cX1_putGate 22 = .ok (.getfield 9, 3) := by decide +kernel
theorem dX1_putGate_25 : decode cX1_putGate 25 = .ok (.iload 4, 2) := by decide +kernel
theorem dX1_putGate_27 : decode cX1_putGate 27 = .ok (.iload_n 1, 1) := by decide +kernel
theorem dX1_putGate_28 : decode cX1_putGate 28 = .ok (.iastore, 1) := by decide +kernel
theorem dX1_putGate_29 : decode cX1_putGate 29 = .ok (.aload_n 0, 1) := by decide +kernel
theorem dX1_putGate_30 : decode cX1_putGate 30 = .ok (.getfield 15, 3) := by decide +kernel
theorem dX1_putGate_33 : decode cX1_putGate 33 = .ok (.iload 4, 2) := by decide +kernel
theorem dX1_putGate_35 : decode cX1_putGate 35 = .ok (.iload_n 2, 1) := by decide +kernel
theorem dX1_putGate_36 : decode cX1_putGate 36 = .ok (.iastore, 1) := by decide +kernel
theorem dX1_putGate_37 : decode cX1_putGate 37 = .ok (.aload_n 0, 1) := by decide +kernel
theorem dX1_putGate_38 : decode cX1_putGate 38 = .ok (.getfield 18, 3) := by decide +kernel
theorem dX1_putGate_41 : decode cX1_putGate 41 = .ok (.iload 4, 2) := by decide +kernel
theorem dX1_putGate_43 : decode cX1_putGate 43 = .ok (.iload_n 1, 1) := by decide +kernel
theorem dX1_putGate_44 : decode cX1_putGate 44 = .ok (.iconst 5, 1) := by decide +kernel
theorem dX1_putGate_45 : decode cX1_putGate 45 = .ok (.if_icmp .ne 7, 3) := by decide +kernel
theorem dX1_putGate_48 : decode cX1_putGate 48 = .ok (.iload_n 2, 1) := by decide +kernel
theorem dX1_putGate_49 : decode cX1_putGate 49 = .ok (.goto 4, 3) := by decide +kernel
theorem dX1_putGate_52 : decode cX1_putGate 52 = .ok (.iload_n 3, 1) := by decide +kernel
theorem dX1_putGate_53 : decode cX1_putGate 53 = .ok (.iastore, 1) := by decide +kernel
theorem dX1_putGate_54 : decode cX1_putGate 54 = .ok (.aload_n 0, 1) := by decide +kernel
theorem dX1_putGate_55 : decode cX1_putGate 55 = .ok (.iload 4, 2) := by decide +kernel
theorem dX1_putGate_57 : decode cX1_putGate 57 = .ok (.iconst 1, 1) := by decide +kernel
theorem dX1_putGate_58 : decode cX1_putGate 58 = .ok (.iadd, 1) := by decide +kernel
theorem dX1_putGate_59 : decode cX1_putGate 59 = .ok (.putfield 34, 3) := by decide +kernel
theorem dX1_putGate_62 : decode cX1_putGate 62 = .ok (.iload 4, 2) := by decide +kernel
theorem dX1_putGate_64 : decode cX1_putGate 64 = .ok (.ireturn, 1) := by decide +kernel
theorem dX1_putOutput_0 : decode cX1_putOutput 0 = .ok (.aload_n 0, 1) := by decide +kernel
theorem dX1_putOutput_1 : decode cX1_putOutput 1 = .ok (.getfield 37, 3) := by decide +kernel
theorem dX1_putOutput_4 : decode cX1_putOutput 4 = .ok (.ifCond .lt 32, 3) := by decide +kernel
theorem dX1_putOutput_7 : decode cX1_putOutput 7 = .ok (.aload_n 0, 1) := by decide +kernel
theorem dX1_putOutput_8 : decode cX1_putOutput 8 = .ok (.getfield 37, 3) := by decide +kernel
theorem dX1_putOutput_11 : decode cX1_putOutput 11 = .ok (.bipush 6, 2) := by decide +kernel
theorem dX1_putOutput_13 : decode cX1_putOutput 13 = .ok (.if_icmp .ge 23, 3) := by decide +kernel
theorem dX1_putOutput_16 : decode cX1_putOutput 16 = .ok (.aload_n 0, 1) := by decide +kernel
theorem dX1_putOutput_17 : decode cX1_putOutput 17 = .ok (.getfield 21, 3) := by decide +kernel
theorem dX1_putOutput_20 : decode cX1_putOutput 20 = .ok (.aload_n 0, 1) := by decide +kernel
theorem dX1_putOutput_21 : decode cX1_putOutput 21 = .ok (.getfield 37, 3) := by decide +kernel
theorem dX1_putOutput_24 : decode cX1_putOutput 24 = .ok (.iload_n 1, 1) := by decide +kernel
theorem dX1_putOutput_25 : decode cX1_putOutput 25 = .ok (.iastore, 1) := by decide +kernel
theorem dX1_putOutput_26 : decode cX1_putOutput 26 = .ok (.aload_n 0, 1) := by decide +kernel
theorem dX1_putOutput_27 : decode cX1_putOutput 27 = .ok (.dup, 1) := by decide +kernel
theorem dX1_putOutput_28 : decode cX1_putOutput 28 = .ok (.getfield 37, 3) := by decide +kernel
theorem dX1_putOutput_31 : decode cX1_putOutput 31 = .ok (.iconst 1, 1) := by decide +kernel
theorem dX1_putOutput_32 : decode cX1_putOutput 32 = .ok (.iadd, 1) := by decide +kernel
theorem dX1_putOutput_33 : decode cX1_putOutput 33 = .ok (.putfield 37, 3) := by decide +kernel
theorem dX1_putOutput_36 : decode cX1_putOutput 36 = .ok (.return_, 1) := by decide +kernel
theorem dX1_type_0 : decode cX1_type 0 = .ok (.iload_n 1, 1) := by decide +kernel
theorem dX1_type_1 : decode cX1_type 1 = .ok (.ifCond .lt 18, 3) := by decide +kernel
theorem dX1_type_4 : decode cX1_type 4 = .ok (.iload_n 1, 1) := by decide +kernel
theorem dX1_type_5 : decode cX1_type 5 = .ok (.bipush 30, 2) := by decide +kernel
theorem dX1_type_7 : decode cX1_type 7 = .ok (.if_icmp .ge 12, 3) := by decide +kernel
theorem dX1_type_10 : decode cX1_type 10 = .ok (.aload_n 0, 1) := by decide +kernel
theorem dX1_type_11 : decode cX1_type 11 = .ok (.getfield 9, 3) := by decide +kernel
theorem dX1_type_14 : decode cX1_type 14 = .ok (.iload_n 1, 1) := by decide +kernel
theorem dX1_type_15 : decode cX1_type 15 = .ok (.iaload, 1) := by decide +kernel
theorem dX1_type_16 : decode cX1_type 16 = .ok (.goto 5, 3) := by decide +kernel
theorem dX1_type_19 : decode cX1_type 19 = .ok (.bipush (-101), 2) := by decide +kernel
theorem dX1_type_21 : decode cX1_type 21 = .ok (.ireturn, 1) := by decide +kernel
theorem dX1_first_0 : decode cX1_first 0 = .ok (.iload_n 1, 1) := by decide +kernel
theorem dX1_first_1 : decode cX1_first 1 = .ok (.ifCond .lt 18, 3) := by decide +kernel
theorem dX1_first_4 : decode cX1_first 4 = .ok (.iload_n 1, 1) := by decide +kernel
theorem dX1_first_5 : decode cX1_first 5 = .ok (.bipush 30, 2) := by decide +kernel
theorem dX1_first_7 : decode cX1_first 7 = .ok (.if_icmp .ge 12, 3) := by decide +kernel
theorem dX1_first_10 : decode cX1_first 10 = .ok (.aload_n 0, 1) := by decide +kernel
theorem dX1_first_11 : decode cX1_first 11 = .ok (.getfield 15, 3) := by decide +kernel
theorem dX1_first_14 : decode cX1_first 14 = .ok (.iload_n 1, 1) := by decide +kernel
theorem dX1_first_15 : decode cX1_first 15 = .ok (.iaload, 1) := by decide +kernel
theorem dX1_first_16 : decode cX1_first 16 = .ok (.goto 5, 3) := by decide +kernel
theorem dX1_first_19 : decode cX1_first 19 = .ok (.bipush (-101), 2) := by decide +kernel
theorem dX1_first_21 : decode cX1_first 21 = .ok (.ireturn, 1) := by decide +kernel
theorem dX1_second_0 : decode cX1_second 0 = .ok (.iload_n 1, 1) := by decide +kernel
theorem dX1_second_1 : decode cX1_second 1 = .ok (.ifCond .lt 18, 3) := by decide +kernel
theorem dX1_second_4 : decode cX1_second 4 = .ok (.iload_n 1, 1) := by decide +kernel
theorem dX1_second_5 : decode cX1_second 5 = .ok (.bipush 30, 2) := by decide +kernel
theorem dX1_second_7 : decode cX1_second 7 = .ok (.if_icmp .ge 12, 3) := by decide +kernel
theorem dX1_second_10 : decode cX1_second 10 = .ok (.aload_n 0, 1) := by decide +kernel
theorem dX1_second_11 : decode cX1_second 11 = .ok (.getfield 18, 3) := by decide +kernel
theorem dX1_second_14 : decode cX1_second 14 = .ok (.iload_n 1, 1) := by decide +kernel
theorem dX1_second_15 : decode cX1_second 15 = .ok (.iaload, 1) := by decide +kernel
theorem dX1_second_16 : decode cX1_second 16 = .ok (.goto 5, 3) := by decide +kernel
theorem dX1_second_19 : decode cX1_second 19 = .ok (.bipush (-101), 2) := by decide +kernel
theorem dX1_second_21 : decode cX1_second 21 = .ok (.ireturn, 1) := by decide +kernel
theorem dX1_nodeOfOutput_0 : decode cX1_nodeOfOutput 0 = .ok (.iload_n 1, 1) := by decide +kernel
theorem dX1_nodeOfOutput_1 : decode cX1_nodeOfOutput 1 = .ok (.ifCond .lt 18, 3) := by decide +kernel
theorem dX1_nodeOfOutput_4 : decode cX1_nodeOfOutput 4 = .ok (.iload_n 1, 1) := by decide +kernel
theorem dX1_nodeOfOutput_5 : decode cX1_nodeOfOutput 5 = .ok (.bipush 6, 2) := by decide +kernel
theorem dX1_nodeOfOutput_7 : decode cX1_nodeOfOutput 7 = .ok (.if_icmp .ge 12, 3) := by decide +kernel
theorem dX1_nodeOfOutput_10 : decode cX1_nodeOfOutput 10 = .ok (.aload_n 0, 1) := by decide +kernel
theorem dX1_nodeOfOutput_11 : decode cX1_nodeOfOutput 11 = .ok (.getfield 21, 3) := by decide +kernel
theorem dX1_nodeOfOutput_14 : decode cX1_nodeOfOutput 14 = .ok (.iload_n 1, 1) := by decide +kernel
theorem dX1_nodeOfOutput_15 : decode cX1_nodeOfOutput 15 = .ok (.iaload, 1) := by decide +kernel
theorem dX1_nodeOfOutput_16 : decode cX1_nodeOfOutput 16 = .ok (.goto 5, 3) := by decide +kernel
theorem dX1_nodeOfOutput_19 : decode cX1_nodeOfOutput 19 = .ok (.bipush (-101), 2) := by decide +kernel
theorem dX1_nodeOfOutput_21 : decode cX1_nodeOfOutput 21 = .ok (.ireturn, 1) := by decide +kernel
theorem dX2_init_0 : decode cX2_init 0 = .ok (.aload_n 0, 1) := by decide +kernel
theorem dX2_init_1 : decode cX2_init 1 = .ok (.invokespecial 3, 3) := by decide +kernel
theorem dX2_init_4 : decode cX2_init 4 = .ok (.aload_n 0, 1) := by decide +kernel
theorem dX2_init_5 : decode cX2_init 5 = .ok (.sipush 200, 3) := by decide +kernel
theorem dX2_init_8 : decode cX2_init 8 = .ok (.newarray .char, 2) := by decide +kernel
theorem dX2_init_10 : decode cX2_init 10 = .ok (.putfield 9, 3) := by decide +kernel
theorem dX2_init_13 : decode cX2_init 13 = .ok (.return_, 1) := by decide +kernel
theorem dX2_put_0 : decode cX2_put 0 = .ok (.aload_n 0, 1) := by decide +kernel
theorem dX2_put_1 : decode cX2_put 1 = .ok (.getfield 15, 3) := by decide +kernel
theorem dX2_put_4 : decode cX2_put 4 = .ok (.ifCond .lt 33, 3) := by decide +kernel
theorem dX2_put_7 : decode cX2_put 7 = .ok (.aload_n 0, 1) := by decide +kernel
theorem dX2_put_8 : decode cX2_put 8 = .ok (.getfield 15, 3) := by decide +kernel
theorem dX2_put_11 : decode cX2_put 11 = .ok (.sipush 200, 3) := by decide +kernel
theorem dX2_put_14 : decode cX2_put 14 = .ok (.if_icmp .ge 23, 3) := by decide +kernel
theorem dX2_put_17 : decode cX2_put 17 = .ok (.aload_n 0, 1) := by decide +kernel
theorem dX2_put_18 : decode cX2_put 18 = .ok (.getfield 9, 3) := by decide +kernel
theorem dX2_put_21 : decode cX2_put 21 = .ok (.aload_n 0, 1) := by decide +kernel
theorem dX2_put_22 : decode cX2_put 22 = .ok (.getfield 15, 3) := by decide +kernel
theorem dX2_put_25 : decode cX2_put 25 = .ok (.iload_n 1, 1) := by decide +kernel
theorem dX2_put_26 : decode cX2_put 26 = .ok (.castore, 1) := by decide +kernel
theorem dX2_put_27 : decode cX2_put 27 = .ok (.aload_n 0, 1) := by decide +kernel
theorem dX2_put_28 : decode cX2_put 28 = .ok (.dup, 1) := by decide +kernel
theorem dX2_put_29 : decode cX2_put 29 = .ok (.getfield 15, 3) := by decide +kernel
theorem dX2_put_32 : decode cX2_put 32 = .ok (.iconst 1, 1) := by decide +kernel
theorem dX2_put_33 : decode cX2_put 33 = .ok (.iadd, 1) := by decide +kernel
theorem dX2_put_34 : decode cX2_put 34 = .ok (.putfield 15, 3) := by decide +kernel
theorem dX2_put_37 : decode cX2_put 37 = .ok (.return_, 1) := by decide +kernel
theorem dX2_at_0 : decode cX2_at 0 = .ok (.iload_n 1, 1) := by decide +kernel
theorem dX2_at_1 : decode cX2_at 1 = .ok (.ifCond .lt 18, 3) := by decide +kernel
theorem dX2_at_4 : decode cX2_at 4 = .ok (.iload_n 1, 1) := by decide +kernel
theorem dX2_at_5 : decode cX2_at 5 = .ok (.aload_n 0, 1) := by decide +kernel
theorem dX2_at_6 : decode cX2_at 6 = .ok (.getfield 15, 3) := by decide +kernel
theorem dX2_at_9 : decode cX2_at 9 = .ok (.if_icmp .ge 10, 3) := by decide +kernel
theorem dX2_at_12 : decode cX2_at 12 = .ok (.iload_n 1, 1) := by decide +kernel
theorem dX2_at_13 : decode cX2_at 13 = .ok (.sipush 200, 3) := by decide +kernel
theorem dX2_at_16 : decode cX2_at 16 = .ok (.if_icmp .lt 5, 3) := by decide +kernel
theorem dX2_at_19 : decode cX2_at 19 = .ok (.iconst 0, 1) := by decide +kernel
theorem dX2_at_20 : decode cX2_at 20 = .ok (.ireturn, 1) := by decide +kernel
theorem dX2_at_21 : decode cX2_at 21 = .ok (.aload_n 0, 1) := by decide +kernel
theorem dX2_at_22 : decode cX2_at 22 = .ok (.getfield 9, 3) := by decide +kernel
theorem dX2_at_25 : decode cX2_at 25 = .ok (.iload_n 1, 1) := by decide +kernel
theorem dX2_at_26 : decode cX2_at 26 = .ok (.caload, 1) := by decide +kernel
theorem dX2_at_27 : decode cX2_at 27 = .ok (.ireturn, 1) := by decide +kernel
set_option maxRecDepth 20000 in
theorem ggX3_init_X1_init : GoodIn wsX3_init wsX1_init := goodIn_r _ [9, 10, 2, 3, 11, 12, 13, 14, 15, 19, 20, 21, 22, 23, 24, 25, 26, 27, 28] (by decide +kernel) (by decide +kernel)
set_option maxRecDepth 20000 in
theorem gX3_init_X1_init_n17 : GoodIn wsX3_init (wsX1_init) := ggX3_init_X1_init
theorem dX3_init_0 : decode cX3_init 0 = .ok (.aload_n 0, 1) := by decide +kernel
theorem dX3_init_1 : decode cX3_init 1 = .ok (.invokespecial 3, 3) := by decide +kernel
theorem dX3_init_4 : decode cX3_init 4 = .ok (.aload_n 0, 1) := by decide +kernel
theorem dX3_init_5 : decode cX3_init 5 = .ok (.iconst 5, 1) := by decide +kernel
theorem dX3_init_6 : decode cX3_init 6 = .ok (.anewarray 9, 3) := by decide +kernel
theorem dX3_init_9 : decode cX3_init 9 = .ok (.putfield 11, 3) := by decide +kernel
theorem dX3_init_12 : decode cX3_init 12 = .ok (.iconst 0, 1) := by decide +kernel
theorem dX3_init_13 : decode cX3_init 13 = .ok (.istore_n 1, 1) := by decide +kernel
theorem dX3_init_14 : decode cX3_init 14 = .ok (.iload_n 1, 1) := by decide +kernel
theorem dX3_init_15 : decode cX3_init 15 = .ok (.iconst 5, 1) := by decide +kernel
theorem dX3_init_16 : decode cX3_init 16 = .ok (.if_icmp .ge 22, 3) := by decide +kernel
theorem dX3_init_19 : decode cX3_init 19 = .ok (.aload_n 0, 1) := by decide +kernel
theorem dX3_init_20 : decode cX3_init 20 = .ok (.getfield 11, 3) := by decide +kernel
theorem dX3_init_23 : decode cX3_init 23 = .ok (.iload_n 1, 1) := by decide +kernel
theorem dX3_init_24 : decode cX3_init 24 = .ok (.new 9, 3) := by decide +kernel
theorem dX3_init_27 : decode cX3_init 27 = .ok (.dup, 1) := by decide +kernel
theorem dX3_init_28 : decode cX3_init 28 = .ok (.invokespecial 17, 3) := by decide +kernel
theorem dX3_init_31 : decode cX3_init 31 = .ok (.aastore, 1) := by decide +kernel
theorem dX3_init_32 : decode cX3_init 32 = .ok (.iinc 1 1, 3) := by decide +kernel
theorem dX3_init_35 : decode cX3_init 35 = .ok (.goto (-21), 3) := by decide +kernel
theorem dX3_init_38 : decode cX3_init 38 = .ok (.return_, 1) := by decide +kernel
set_option maxRecDepth 20000 in
theorem ggX3_save_X3_slot : GoodIn wsX3_save wsX3_slot := goodIn_r _ [11, 1, 12, 31, 32, 33] (by decide +kernel) (by decide +kernel)
set_option maxRecDepth 20000 in
theorem gX3_save_X3_slot : GoodIn wsX3_save (wsV RX3 18 RX3 yX3_slot wsX3_slot) := goodIn_app (goodIn_of _ (by decide +kernel)) ggX3_save_X3_slot
set_option maxRecDepth 20000 in
theorem ggX3_save_X1_copyFrom : GoodIn wsX3_save wsX1_copyFrom := goodIn_r _ [16, 17, 18, 19, 20, 21, 22, 23, 24, 25, 26, 27, 28, 29, 30, 34, 35, 36, 37, 38, 39, 40, 41, 42, 43] (by decide +kernel) (by decide +kernel)
set_option maxRecDepth 20000 in
theorem gX3_save_X1_copyFrom_n22 : GoodIn wsX3_save (wsX1_copyFrom) := ggX3_save_X1_copyFrom
theorem dX3_save_0 : decode cX3_save 0 = .ok (.aload_n 0, 1) := by decide +kernel
theorem dX3_save_1 : decode cX3_save 1 = .ok (.invokevirtual 18, 3) := by decide +kernel
theorem dX3_save_4 : decode cX3_save 4 = .ok (.astore_n 2, 1) := by decide +kernel
theorem dX3_save_5 : decode cX3_save 5 = .ok (.aload_n 2, 1) := by decide +kernel
theorem dX3_save_6 : decode cX3_save 6 = .ok (.ifnull 8, 3) := by decide +kernel
theorem dX3_save_9 : decode cX3_save 9 = .ok (.aload_n 2, 1) := by decide +kernel
theorem dX3_save_10 : decode cX3_save 10 = .ok (.aload_n 1, 1) := by decide +kernel
theorem dX3_save_11 : decode cX3_save 11 = .ok (.invokevirtual 22, 3) := by decide +kernel
theorem dX3_save_14 : decode cX3_save 14 = .ok (.aload_n 0, 1) := by decide +kernel
theorem dX3_save_15 : decode cX3_save 15 = .ok (.aload_n 0, 1) := by decide +kernel
theorem dX3_save_16 : decode cX3_save 16 = .ok (.getfield 26, 3) := by decide +kernel
theorem dX3_save_19 : decode cX3_save 19 = .ok (.iconst 1, 1) := by decide +kernel
theorem dX3_save_20 : decode cX3_save 20 = .ok (.iadd, 1) := by decide +kernel
theorem dX3_save_21 : decode cX3_save 21 = .ok (.iconst 5, 1) := by decide +kernel
theorem dX3_save_22 : decode cX3_save 22 = .ok (.if_icmp .ge 12, 3) := by decide +kernel
theorem dX3_save_25 : decode cX3_save 25 = .ok (.aload_n 0, 1) := by decide +kernel
theorem dX3_save_26 : decode cX3_save 26 = .ok (.getfield 26, 3) := by decide +kernel
theorem dX3_save_29 : decode cX3_save 29 = .ok (.iconst 1, 1) := by decide +kernel
theorem dX3_save_30 : decode cX3_save 30 = .ok (.iadd, 1) := by decide +kernel
theorem dX3_save_31 : decode cX3_save 31 = .ok (.goto 4, 3) := by decide +kernel
theorem dX3_save_34 : decode cX3_save 34 = .ok (.iconst 0, 1) := by decide +kernel
theorem dX3_save_35 : decode cX3_save 35 = .ok (.putfield 26, 3) := by decide +kernel
theorem dX3_save_38 : decode cX3_save 38 = .ok (.aload_n 0, 1) := by decide +kernel
theorem dX3_save_39 : decode cX3_save 39 = .ok (.aload_n 0, 1) := by decide +kernel
theorem dX3_save_40 : decode cX3_save 40 = .ok (.getfield 30, 3) := by decide +kernel
theorem dX3_save_43 : decode cX3_save 43 = .ok (.iconst 1, 1) := by decide +kernel
theorem dX3_save_44 : decode cX3_save 44 = .ok (.iadd, 1) := by decide +kernel
theorem dX3_save_45 : decode cX3_save 45 = .ok (.iconst 5, 1) := by decide +kernel
theorem dX3_save_46 : decode cX3_save 46 = .ok (.invokestatic 33, 3) := by decide +kernel
theorem dX3_save_49 : decode cX3_save 49 = .ok (.putfield 30, 3) := by decide +kernel
theorem dX3_save_52 : decode cX3_save 52 = .ok (.return_, 1) := by decide +kernel
set_option maxRecDepth 20000 in
theorem ggX3_restore_X3_slot : GoodIn wsX3_restore wsX3_slot := goodIn_r _ [11, 1, 12, 31, 32, 33] (by decide +kernel) (by decide +kernel)
set_option maxRecDepth 20000 in
theorem gX3_restore_X3_slot : GoodIn wsX3_restore (wsV RX3 18 RX3 yX3_slot wsX3_slot) := goodIn_app (goodIn_of _ (by decide +kernel)) ggX3_restore_X3_slot
set_option maxRecDepth 20000 in
theorem ggX3_restore_X1_copyFrom : GoodIn wsX3_restore wsX1_copyFrom := goodIn_r _ [16, 17, 18, 19, 20, 21, 22, 23, 24, 25, 26, 27, 28, 29, 30, 34, 35, 36, 37, 38, 39, 40, 41, 42, 43] (by decide +kernel) (by decide +kernel)
set_option maxRecDepth 20000 in
theorem gX3_restore_X1_copyFrom_n22 : GoodIn wsX3_restore (wsX1_copyFrom) := ggX3_restore_X1_copyFrom
theorem dX3_restore_0 : decode cX3_restore 0 = .ok (.aload_n 0, 1) := by decide +kernel
theorem dX3_restore_1 : decode cX3_restore 1 = .ok (.aload_n 0, 1) := by decide +kernel
theorem dX3_restore_2 : decode cX3_restore 2 = .ok (.getfield 26, 3) := by decide +kernel
theorem dX3_restore_5 : decode cX3_restore 5 = .ok (.ifCond .le 12, 3) := by decide +kernel
theorem dX3_restore_8 : decode cX3_restore 8 = .ok (.aload_n 0, 1) := by decide +kernel
theorem dX3_restore_9 : decode cX3_restore 9 = .ok (.getfield 26, 3) := by decide +kernel
theorem dX3_restore_12 : decode cX3_restore 12 = .ok (.iconst 1, 1) := by decide +kernel
theorem dX3_restore_13 : decode cX3_restore 13 = .ok (.isub, 1) := by decide +kernel
theorem dX3_restore_14 : decode cX3_restore 14 = .ok (.goto 4, 3) := by decide +kernel
theorem dX3_restore_17 : decode cX3_restore 17 = .ok (.iconst 4, 1) := by decide +kernel
theorem dX3_restore_18 : decode cX3_restore 18 = .ok (.putfield 26, 3) := by decide +kernel
theorem dX3_restore_21 : decode cX3_restore 21 = .ok (.aload_n 0, 1) := by decide +kernel
theorem dX3_restore_22 : decode cX3_restore 22 = .ok (.aload_n 0, 1) := by decide +kernel
theorem dX3_restore_23 : decode cX3_restore 23 = .ok (.getfield 30, 3) := by decide +kernel
theorem dX3_restore_26 : decode cX3_restore 26 = .ok (.iconst 1, 1) := by decide +kernel
theorem dX3_restore_27 : decode cX3_restore 27 = .ok (.isub, 1) := by decide +kernel
theorem dX3_restore_28 : decode cX3_restore 28 = .ok (.iconst 0, 1) := by decide +kernel
theorem dX3_restore_29 : decode cX3_restore 29 = .ok (.invokestatic 39, 3) := by decide +kernel
theorem dX3_restore_32 : decode cX3_restore 32 = .ok (.putfield 30, 3) := by decide +kernel
theorem dX3_restore_35 : decode cX3_restore 35 = .ok (.aload_n 0, 1) := by decide +kernel
theorem dX3_restore_36 : decode cX3_restore 36 = .ok (.invokevirtual 18, 3) := by decide +kernel
theorem dX3_restore_39 : decode cX3_restore 39 = .ok (.astore_n 2, 1) := by decide +kernel
theorem dX3_restore_40 : decode cX3_restore 40 = .ok (.aload_n 2, 1) := by decide +kernel
theorem dX3_restore_41 : decode cX3_restore 41 = .ok (.ifnull 8, 3) := by decide +kernel
theorem dX3_restore_44 : decode cX3_restore 44 = .ok (.aload_n 1, 1) := by decide +kernel
theorem dX3_restore_45 : decode cX3_restore 45 = .ok (.aload_n 2, 1) := by decide +kernel
theorem dX3_restore_46 : decode cX3_restore 46 = .ok (.invokevirtual 22, 3) := by decide +kernel
theorem dX3_restore_49 : decode cX3_restore 49 = .ok (.return_, 1) := by decide +kernel
theorem dX3_slot_0 : decode cX3_slot 0 = .ok (.aload_n 0, 1) := by decide +kernel
theorem dX3_slot_1 : decode cX3_slot 1 = .ok (.getfield 26, 3) := by decide +kernel
theorem dX3_slot_4 : decode cX3_slot 4 = .ok (.ifCond .lt 23, 3) := by decide +kernel
theorem dX3_slot_7 : decode cX3_slot 7 = .ok (.aload_n 0, 1) := by decide +kernel
theorem dX3_slot_8 : decode cX3_slot 8 = .ok (.getfield 26, 3) := by decide +kernel
theorem dX3_slot_11 : decode cX3_slot 11 = .ok (.iconst 5, 1) := by decide +kernel
theorem dX3_slot_12 : decode cX3_slot 12 = .ok (.if_icmp .ge 15, 3) := by decide +kernel
theorem dX3_slot_15 : decode cX3_slot 15 = .ok (.aload_n 0, 1) := by decide +kernel
theorem dX3_slot_16 : decode cX3_slot 16 = .ok (.getfield 11, 3) := by decide +kernel
theorem dX3_slot_19 : decode cX3_slot 19 = .ok (.aload_n 0, 1) := by decide +kernel
theorem dX3_slot_20 : decode cX3_slot 20 = .ok (.getfield 26, 3) := by decide +kernel
theorem dX3_slot_23 : decode cX3_slot 23 = .ok (.aaload, 1) := by decide +kernel
theorem dX3_slot_24 : decode cX3_slot 24 = .ok (.goto 4, 3) := by decide +kernel
theorem dX3_slot_27 : decode cX3_slot 27 = .ok (.aconst_null, 1) := by decide +kernel
theorem dX3_slot_28 : decode cX3_slot 28 = .ok (.areturn, 1) := by decide +kernel
set_option maxRecDepth 20000 in
theorem ggX4_init_X1_init : GoodIn wsX4_init wsX1_init := goodIn_r _ [12, 13, 2, 3, 8, 14, 15, 16, 17, 18, 19, 20, 21, 22, 23, 24, 25, 26, 27] (by decide +kernel) (by decide +kernel)
set_option maxRecDepth 20000 in
theorem gX4_init_X1_init_n11 : GoodIn wsX4_init (wsX1_init) := ggX4_init_X1_init
theorem dX4_init_0 : decode cX4_init 0 = .ok (.aload_n 0, 1) := by decide +kernel
theorem dX4_init_1 : decode cX4_init 1 = .ok (.invokespecial 3, 3) := by decide +kernel
theorem dX4_init_4 : decode cX4_init 4 = .ok (.aload_n 0, 1) := by decide +kernel
theorem dX4_init_5 : decode cX4_init 5 = .ok (.new 9, 3) := by decide +kernel
theorem dX4_init_8 : decode cX4_init 8 = .ok (.dup, 1) := by decide +kernel
theorem dX4_init_9 : decode cX4_init 9 = .ok (.invokespecial 11, 3) := by decide +kernel
theorem dX4_init_12 : decode cX4_init 12 = .ok (.putfield 12, 3) := by decide +kernel
theorem dX4_init_15 : decode cX4_init 15 = .ok (.aload_n 0, 1) := by decide +kernel
theorem dX4_init_16 : decode cX4_init 16 = .ok (.iconst 3, 1) := by decide +kernel
theorem dX4_init_17 : decode cX4_init 17 = .ok (.newarray .int, 2) := by decide +kernel
theorem dX4_init_19 : decode cX4_init 19 = .ok (.putfield 18, 3) := by decide +kernel
theorem dX4_init_22 : decode cX4_init 22 = .ok (.aload_n 0, 1) := by decide +kernel
theorem dX4_init_23 : decode cX4_init 23 = .ok (.aload_n 1, 1) := by decide +kernel
theorem dX4_init_24 : decode cX4_init 24 = .ok (.putfield 22, 3) := by decide +kernel
theorem dX4_init_27 : decode cX4_init 27 = .ok (.return_, 1) := by decide +kernel
set_option maxRecDepth 20000 in
theorem ggX4_read_X4_readStatement : GoodIn wsX4_read wsX4_readStatement := goodIn_r _ [10, 3, 4, 11, 12, 13, 14, 15, 16, 17, 18, 19, 20, 9, 21, 22, 23, 24, 25, 26, 27, 28, 29, 30, 31, 32, 33, 34, 35, 36, 5, 37, 38, 39, 40, 41, 42, 43, 44, 45, 46, 47, 48, 49, 50, 51, 52, 53, 54, 55, 56, 57, 58, 59, 60, 61, 62, 63, 64, 65, 66, 67, 68, 69, 70, 71, 72, 73, 74, 75, 76, 77, 78, 79, 80, 81, 82, 87, 88, 89, 90, 91, 92, 93, 94, 95, 96, 97, 98, 99, 100, 101, 102, 103, 104, 105] (by decide +kernel) (by decide +kernel)
set_option maxRecDepth 20000 in
theorem gX4_read_X4_readStatement : GoodIn wsX4_read (wsV RX4 41 RX4 yX4_readStatement wsX4_readStatement) := goodIn_app (goodIn_of _ (by decide +kernel)) ggX4_read_X4_readStatement
set_option maxRecDepth 20000 in
theorem ggX4_read_X1_words : GoodIn wsX4_read wsX1_words := goodIn_r _ [85, 86, 41, 96, 97, 98, 99, 100, 101, 102, 103, 104, 105] (by decide +kernel) (by decide +kernel)
set_option maxRecDepth 20000 in
theorem gX4_read_X1_words_n49 : GoodIn wsX4_read (wsX1_words) := ggX4_read_X1_words
theorem dX4_read_0 : decode cX4_read 0 = .ok (.aload_n 0, 1) := by decide +kernel
theorem dX4_read_1 : decode cX4_read 1 = .ok (.bipush (-104), 2) := by decide +kernel
theorem dX4_read_3 : decode cX4_read 3 = .ok (.putfield 26, 3) := by decide +kernel
theorem dX4_read_6 : decode cX4_read 6 = .ok (.aload_n 0, 1) := by decide +kernel
theorem dX4_read_7 : decode cX4_read 7 = .ok (.bipush (-104), 2) := by decide +kernel
theorem dX4_read_9 : decode cX4_read 9 = .ok (.putfield 30, 3) := by decide +kernel
theorem dX4_read_12 : decode cX4_read 12 = .ok (.aload_n 0, 1) := by decide +kernel
theorem dX4_read_13 : decode cX4_read 13 = .ok (.iconst 0, 1) := by decide +kernel
theorem dX4_read_14 : decode cX4_read 14 = .ok (.putfield 33, 3) := by decide +kernel
theorem dX4_read_17 : decode cX4_read 17 = .ok (.iconst 0, 1) := by decide +kernel
theorem dX4_read_18 : decode cX4_read 18 = .ok (.istore_n 1, 1) := by decide +kernel
theorem dX4_read_19 : decode cX4_read 19 = .ok (.iload_n 1, 1) := by decide +kernel
theorem dX4_read_20 : decode cX4_read 20 = .ok (.sipush 200, 3) := by decide +kernel
theorem dX4_read_23 : decode cX4_read 23 = .ok (.if_icmp .ge 48, 3) := by decide +kernel
theorem dX4_read_26 : decode cX4_read 26 = .ok (.aload_n 0, 1) := by decide +kernel
theorem dX4_read_27 : decode cX4_read 27 = .ok (.getfield 33, 3) := by decide +kernel
theorem dX4_read_30 : decode cX4_read 30 = .ok (.aload_n 0, 1) := by decide +kernel
theorem dX4_read_31 : decode cX4_read 31 = .ok (.getfield 22, 3) := by decide +kernel
theorem dX4_read_34 : decode cX4_read 34 = .ok (.getfield 36, 3) := by decide +kernel
theorem dX4_read_37 : decode cX4_read 37 = .ok (.if_icmp .ge 34, 3) := by decide +kernel
theorem dX4_read_40 : decode cX4_read 40 = .ok (.aload_n 0, 1) := by decide +kernel
theorem dX4_read_41 : decode cX4_read 41 = .ok (.getfield 33, 3) := by decide +kernel
theorem dX4_read_44 : decode cX4_read 44 = .ok (.istore_n 2, 1) := by decide +kernel
theorem dX4_read_45 : decode cX4_read 45 = .ok (.aload_n 0, 1) := by decide +kernel
theorem dX4_read_46 : decode cX4_read 46 = .ok (.invokevirtual 41, 3) := by decide +kernel
theorem dX4_read_49 : decode cX4_read 49 = .ok (.istore_n 3, 1) := by decide +kernel
theorem dX4_read_50 : decode cX4_read 50 = .ok (.iload_n 3, 1) := by decide +kernel
theorem dX4_read_51 : decode cX4_read 51 = .ok (.ifCond .eq 14, 3) := by decide +kernel
theorem dX4_read_54 : decode cX4_read 54 = .ok (.aload_n 0, 1) := by decide +kernel
theorem dX4_read_55 : decode cX4_read 55 = .ok (.iload_n 2, 1) := by decide +kernel
theorem dX4_read_56 : decode cX4_read 56 = .ok (.putfield 26, 3) := by decide +kernel
theorem dX4_read_59 : decode cX4_read 59 = .ok (.aload_n 0, 1) := by decide +kernel
theorem dX4_read_60 : decode cX4_read 60 = .ok (.iload_n 3, 1) := by decide +kernel
theorem dX4_read_61 : decode cX4_read 61 = .ok (.putfield 30, 3) := by decide +kernel
theorem dX4_read_64 : decode cX4_read 64 = .ok (.return_, 1) := by decide +kernel
theorem dX4_read_65 : decode cX4_read 65 = .ok (.iinc 1 1, 3) := by decide +kernel
theorem dX4_read_68 : decode cX4_read 68 = .ok (.goto (-49), 3) := by decide +kernel
theorem dX4_read_71 : decode cX4_read 71 = .ok (.aload_n 0, 1) := by decide +kernel
theorem dX4_read_72 : decode cX4_read 72 = .ok (.getfield 12, 3) := by decide +kernel
theorem dX4_read_75 : decode cX4_read 75 = .ok (.getfield 45, 3) := by decide +kernel
theorem dX4_read_78 : decode cX4_read 78 = .ok (.lconst 0, 1) := by decide +kernel
theorem dX4_read_79 : decode cX4_read 79 = .ok (.lcmp, 1) := by decide +kernel
theorem dX4_read_80 : decode cX4_read 80 = .ok (.ifCond .ne 17, 3) := by decide +kernel
theorem dX4_read_83 : decode cX4_read 83 = .ok (.aload_n 0, 1) := by decide +kernel
theorem dX4_read_84 : decode cX4_read 84 = .ok (.getfield 12, 3) := by decide +kernel
theorem dX4_read_87 : decode cX4_read 87 = .ok (.aload_n 0, 1) := by decide +kernel
theorem dX4_read_88 : decode cX4_read 88 = .ok (.getfield 12, 3) := by decide +kernel
theorem dX4_read_91 : decode cX4_read 91 = .ok (.invokevirtual 49, 3) := by decide +kernel
theorem dX4_read_94 : decode cX4_read 94 = .ok (.putfield 45, 3) := by decide +kernel
theorem dX4_read_97 : decode cX4_read 97 = .ok (.return_, 1) := by decide +kernel
set_option maxRecDepth 20000 in
theorem ggX4_readStatement_X2_at : GoodIn wsX4_readStatement wsX2_at := goodIn_r _ [8, 9, 10, 84, 85] (by decide +kernel) (by decide +kernel)
set_option maxRecDepth 20000 in
theorem gX4_readStatement_X2_at_n53 : GoodIn wsX4_readStatement (wsX2_at) := ggX4_readStatement_X2_at
set_option maxRecDepth 20000 in
theorem ggX4_readStatement_X4_mayBegin : GoodIn wsX4_readStatement wsX4_mayBegin := goodIn_r _ [14] (by decide +kernel) (by decide +kernel)
set_option maxRecDepth 20000 in
theorem gX4_readStatement_X4_mayBegin : GoodIn wsX4_readStatement (va_wsS RX4 57 yX4_mayBegin wsX4_mayBegin) := goodIn_app (goodIn_of _ (by decide +kernel)) ggX4_readStatement_X4_mayBegin
set_option maxRecDepth 20000 in
theorem ggX4_readStatement_X4_readNumbers : GoodIn wsX4_readStatement wsX4_readNumbers := goodIn_r _ [18, 3, 4, 2, 1, 19, 20, 21, 13, 22, 5, 6, 7, 8, 9, 10, 23, 24, 25, 77, 78, 79, 80, 81, 82, 83, 84, 85] (by decide +kernel) (by decide +kernel)
set_option maxRecDepth 20000 in
theorem gX4_readStatement_X4_readNumbers : GoodIn wsX4_readStatement (wsV RX4 61 RX4 yX4_readNumbers wsX4_readNumbers) := goodIn_app (goodIn_of _ (by decide +kernel)) ggX4_readStatement_X4_readNumbers
set_option maxRecDepth 20000 in
theorem ggX4_readStatement_X4_takeInputs : GoodIn wsX4_readStatement wsX4_takeInputs := goodIn_r _ [29, 30, 31, 32, 33, 34, 35, 36, 37, 38, 39, 77, 78, 79, 80, 81, 82, 83, 86, 87, 88, 89, 90, 91, 92, 93, 94, 95] (by decide +kernel) (by decide +kernel)
set_option maxRecDepth 20000 in
theorem gX4_readStatement_X4_takeInputs : GoodIn wsX4_readStatement (wsV RX4 68 RX4 yX4_takeInputs wsX4_takeInputs) := goodIn_app (goodIn_of _ (by decide +kernel)) ggX4_readStatement_X4_takeInputs
set_option maxRecDepth 20000 in
theorem ggX4_readStatement_X4_takeGate : GoodIn wsX4_readStatement wsX4_takeGate := goodIn_r _ [43, 3, 30, 44, 45, 46, 47, 32, 48, 49, 36, 50, 51, 52, 53, 54, 55, 56, 35, 57, 58, 59, 39, 60, 61, 77, 78, 79, 80, 81, 82, 83, 86, 87, 88, 89, 90, 91, 92, 93, 94, 95] (by decide +kernel) (by decide +kernel)
set_option maxRecDepth 20000 in
theorem gX4_readStatement_X4_takeGate : GoodIn wsX4_readStatement (wsV RX4 72 RX4 yX4_takeGate wsX4_takeGate) := goodIn_app (goodIn_of _ (by decide +kernel)) ggX4_readStatement_X4_takeGate
set_option maxRecDepth 20000 in
theorem ggX4_readStatement_X4_takeOutput : GoodIn wsX4_readStatement wsX4_takeOutput := goodIn_r _ [65, 30, 47, 32, 48, 49, 36, 66, 67, 68, 37, 69, 77, 78, 79, 80, 81, 82, 83, 86, 87, 88, 89, 90, 91, 92, 93, 94, 95] (by decide +kernel) (by decide +kernel)
set_option maxRecDepth 20000 in
theorem gX4_readStatement_X4_takeOutput : GoodIn wsX4_readStatement (wsV RX4 76 RX4 yX4_takeOutput wsX4_takeOutput) := goodIn_app (goodIn_of _ (by decide +kernel)) ggX4_readStatement_X4_takeOutput
set_option maxRecDepth 20000 in
theorem ggX4_readStatement_X4_takeNormal : GoodIn wsX4_readStatement wsX4_takeNormal := goodIn_r _ [73, 30, 74, 32, 75, 76, 35, 77, 78, 79, 80, 81, 82, 83, 86, 87, 88, 89, 90, 91, 92, 93, 94, 95] (by decide +kernel) (by decide +kernel)
set_option maxRecDepth 20000 in
theorem gX4_readStatement_X4_takeNormal : GoodIn wsX4_readStatement (wsV RX4 79 RX4 yX4_takeNormal wsX4_takeNormal) := goodIn_app (goodIn_of _ (by decide +kernel)) ggX4_readStatement_X4_takeNormal
theorem dX4_readStatement_0 : decode cX4_readStatement 0 = .ok (.aload_n 0, 1) := by decide +kernel
theorem dX4_readStatement_1 : decode cX4_readStatement 1 = .ok (.getfield 33, 3) := by decide +kernel
theorem dX4_readStatement_4 : decode cX4_readStatement 4 = .ok (.ifCond .ne 7, 3) := by decide +kernel
theorem dX4_readStatement_7 : decode cX4_readStatement 7 = .ok (.iconst 1, 1) := by decide +kernel
theorem dX4_readStatement_8 : decode cX4_readStatement 8 = .ok (.goto 4, 3) := by decide +kernel
theorem dX4_readStatement_11 : decode cX4_readStatement 11 = .ok (.iconst 0, 1) := by decide +kernel
theorem dX4_readStatement_12 : decode cX4_readStatement 12 = .ok (.istore_n 1, 1) := by decide +kernel
theorem dX4_readStatement_13 : decode cX4_readStatement 13 = .ok (.aload_n 0, 1) := by decide +kernel
theorem dX4_readStatement_14 : decode cX4_readStatement 14 = .ok (.getfield 22, 3) := by decide +kernel
theorem dX4_readStatement_17 : decode cX4_readStatement 17 = .ok (.aload_n 0, 1) := by decide +kernel
theorem dX4_readStatement_18 : decode cX4_readStatement 18 = .ok (.getfield 33, 3) := by decide +kernel
theorem dX4_readStatement_21 : decode cX4_readStatement 21 = .ok (.invokevirtual 53, 3) := by decide +kernel
theorem dX4_readStatement_24 : decode cX4_readStatement 24 = .ok (.istore_n 2, 1) := by decide +kernel
theorem dX4_readStatement_25 : decode cX4_readStatement 25 = .ok (.aload_n 0, 1) := by decide +kernel
theorem dX4_readStatement_26 : decode cX4_readStatement 26 = .ok (.dup, 1) := by decide +kernel
theorem dX4_readStatement_27 : decode cX4_readStatement 27 = .ok (.getfield 33, 3) := by decide +kernel
theorem dX4_readStatement_30 : decode cX4_readStatement 30 = .ok (.iconst 1, 1) := by decide +kernel
theorem dX4_readStatement_31 : decode cX4_readStatement 31 = .ok (.iadd, 1) := by decide +kernel
theorem dX4_readStatement_32 : decode cX4_readStatement 32 = .ok (.putfield 33, 3) := by decide +kernel
theorem dX4_readStatement_35 : decode cX4_readStatement 35 = .ok (.iload_n 2, 1) := by decide +kernel
theorem dX4_readStatement_36 : decode cX4_readStatement 36 = .ok (.iload_n 1, 1) := by decide +kernel
theorem dX4_readStatement_37 : decode cX4_readStatement 37 = .ok (.invokestatic 57, 3) := by decide +kernel
theorem dX4_readStatement_40 : decode cX4_readStatement 40 = .ok (.ifCond .ne 5, 3) := by decide +kernel
theorem dX4_readStatement_43 : decode cX4_readStatement 43 = .ok (.iconst 1, 1) := by decide +kernel
theorem dX4_readStatement_44 : decode cX4_readStatement 44 = .ok (.ireturn, 1) := by decide +kernel
theorem dX4_readStatement_45 : decode cX4_readStatement 45 = .ok (.iload_n 2, 1) := by decide +kernel
theorem dX4_readStatement_46 : decode cX4_readStatement 46 = .ok (.bipush 103, 2) := by decide +kernel
theorem dX4_readStatement_48 : decode cX4_readStatement 48 = .ok (.if_icmp .ne 7, 3) := by decide +kernel
theorem dX4_readStatement_51 : decode cX4_readStatement 51 = .ok (.iconst 2, 1) := by decide +kernel
theorem dX4_readStatement_52 : decode cX4_readStatement 52 = .ok (.goto 4, 3) := by decide +kernel
theorem dX4_readStatement_55 : decode cX4_readStatement 55 = .ok (.iconst 1, 1) := by decide +kernel
theorem dX4_readStatement_56 : decode cX4_readStatement 56 = .ok (.istore_n 3, 1) := by decide +kernel
theorem dX4_readStatement_57 : decode cX4_readStatement 57 = .ok (.iload_n 2, 1) := by decide +kernel
theorem dX4_readStatement_58 : decode cX4_readStatement 58 = .ok (.bipush 103, 2) := by decide +kernel
theorem dX4_readStatement_60 : decode cX4_readStatement 60 = .ok (.if_icmp .ne 7, 3) := by decide +kernel
theorem dX4_readStatement_63 : decode cX4_readStatement 63 = .ok (.iconst 3, 1) := by decide +kernel
theorem dX4_readStatement_64 : decode cX4_readStatement 64 = .ok (.goto 4, 3) := by decide +kernel
theorem dX4_readStatement_67 : decode cX4_readStatement 67 = .ok (.iconst 1, 1) := by decide +kernel
theorem dX4_readStatement_68 : decode cX4_readStatement 68 = .ok (.istore 4, 2) := by decide +kernel
theorem dX4_readStatement_70 : decode cX4_readStatement 70 = .ok (.aload_n 0, 1) := by decide +kernel
theorem dX4_readStatement_71 : decode cX4_readStatement 71 = .ok (.iload 4, 2) := by decide +kernel
theorem dX4_readStatement_73 : decode cX4_readStatement 73 = .ok (.invokevirtual 61, 3) := by decide +kernel
theorem dX4_readStatement_76 : decode cX4_readStatement 76 = .ok (.ifCond .eq 11, 3) := by decide +kernel
theorem dX4_readStatement_79 : decode cX4_readStatement 79 = .ok (.aload_n 0, 1) := by decide +kernel
theorem dX4_readStatement_80 : decode cX4_readStatement 80 = .ok (.getfield 65, 3) := by decide +kernel
theorem dX4_readStatement_83 : decode cX4_readStatement 83 = .ok (.iload_n 3, 1) := by decide +kernel
theorem dX4_readStatement_84 : decode cX4_readStatement 84 = .ok (.if_icmp .ge 5, 3) := by decide +kernel
theorem dX4_readStatement_87 : decode cX4_readStatement 87 = .ok (.iconst 2, 1) := by decide +kernel
theorem dX4_readStatement_88 : decode cX4_readStatement 88 = .ok (.ireturn, 1) := by decide +kernel
theorem dX4_readStatement_89 : decode cX4_readStatement 89 = .ok (.iload_n 2, 1) := by decide +kernel
theorem dX4_readStatement_90 : decode cX4_readStatement 90 = .ok (.bipush 105, 2) := by decide +kernel
theorem dX4_readStatement_92 : decode cX4_readStatement 92 = .ok (.if_icmp .ne 14, 3) := by decide +kernel
theorem dX4_readStatement_95 : decode cX4_readStatement 95 = .ok (.aload_n 0, 1) := by decide +kernel
theorem dX4_readStatement_96 : decode cX4_readStatement 96 = .ok (.aload_n 0, 1) := by decide +kernel
theorem dX4_readStatement_97 : decode cX4_readStatement 97 = .ok (.getfield 18, 3) := by decide +kernel
theorem dX4_readStatement_100 : decode cX4_readStatement 100 = .ok (.iconst 0, 1) := by decide +kernel
theorem dX4_readStatement_101 : decode cX4_readStatement 101 = .ok (.iaload, 1) := by decide +kernel
theorem dX4_readStatement_102 : decode cX4_readStatement 102 = .ok (.invokevirtual 68, 3) := by decide +kernel
theorem dX4_readStatement_105 : decode cX4_readStatement 105 = .ok (.ireturn, 1) := by decide +kernel
theorem dX4_readStatement_106 : decode cX4_readStatement 106 = .ok (.iload_n 2, 1) := by decide +kernel
theorem dX4_readStatement_107 : decode cX4_readStatement 107 = .ok (.bipush 103, 2) := by decide +kernel
theorem dX4_readStatement_109 : decode cX4_readStatement 109 = .ok (.if_icmp .ne 26, 3) := by decide +kernel
theorem dX4_readStatement_112 : decode cX4_readStatement 112 = .ok (.aload_n 0, 1) := by decide +kernel
theorem dX4_readStatement_113 : decode cX4_readStatement 113 = .ok (.aload_n 0, 1) := by decide +kernel
theorem dX4_readStatement_114 : decode cX4_readStatement 114 = .ok (.getfield 18, 3) := by decide +kernel
theorem dX4_readStatement_117 : decode cX4_readStatement 117 = .ok (.iconst 0, 1) := by decide +kernel
theorem dX4_readStatement_118 : decode cX4_readStatement 118 = .ok (.iaload, 1) := by decide +kernel
theorem dX4_readStatement_119 : decode cX4_readStatement 119 = .ok (.aload_n 0, 1) := by decide +kernel
theorem dX4_readStatement_120 : decode cX4_readStatement 120 = .ok (.getfield 18, 3) := by decide +kernel
theorem dX4_readStatement_123 : decode cX4_readStatement 123 = .ok (.iconst 1, 1) := by decide +kernel
theorem dX4_readStatement_124 : decode cX4_readStatement 124 = .ok (.iaload, 1) := by decide +kernel
theorem dX4_readStatement_125 : decode cX4_readStatement 125 = .ok (.aload_n 0, 1) := by decide +kernel
theorem dX4_readStatement_126 : decode cX4_readStatement 126 = .ok (.getfield 18, 3) := by decide +kernel
theorem dX4_readStatement_129 : decode cX4_readStatement 129 = .ok (.iconst 2, 1) := by decide +kernel
theorem dX4_readStatement_130 : decode cX4_readStatement 130 = .ok (.iaload, 1) := by decide +kernel
theorem dX4_readStatement_131 : decode cX4_readStatement 131 = .ok (.invokevirtual 72, 3) := by decide +kernel
theorem dX4_readStatement_134 : decode cX4_readStatement 134 = .ok (.ireturn, 1) := by decide +kernel
theorem dX4_readStatement_135 : decode cX4_readStatement 135 = .ok (.iload_n 2, 1) := by decide +kernel
theorem dX4_readStatement_136 : decode cX4_readStatement 136 = .ok (.bipush 111, 2) := by decide +kernel
theorem dX4_readStatement_138 : decode cX4_readStatement 138 = .ok (.if_icmp .ne 16, 3) := by decide +kernel
theorem dX4_readStatement_141 : decode cX4_readStatement 141 = .ok (.aload_n 0, 1) := by decide +kernel
theorem dX4_readStatement_142 : decode cX4_readStatement 142 = .ok (.aload_n 0, 1) := by decide +kernel
theorem dX4_readStatement_143 : decode cX4_readStatement 143 = .ok (.getfield 18, 3) := by decide +kernel
theorem dX4_readStatement_146 : decode cX4_readStatement 146 = .ok (.iconst 0, 1) := by decide +kernel
theorem dX4_readStatement_147 : decode cX4_readStatement 147 = .ok (.iaload, 1) := by decide +kernel
theorem dX4_readStatement_148 : decode cX4_readStatement 148 = .ok (.invokevirtual 76, 3) := by decide +kernel
theorem dX4_readStatement_151 : decode cX4_readStatement 151 = .ok (.goto 13, 3) := by decide +kernel
theorem dX4_readStatement_154 : decode cX4_readStatement 154 = .ok (.aload_n 0, 1) := by decide +kernel
theorem dX4_readStatement_155 : decode cX4_readStatement 155 = .ok (.aload_n 0, 1) := by decide +kernel
theorem dX4_readStatement_156 : decode cX4_readStatement 156 = .ok (.getfield 18, 3) := by decide +kernel
theorem dX4_readStatement_159 : decode cX4_readStatement 159 = .ok (.iconst 0, 1) := by decide +kernel
theorem dX4_readStatement_160 : decode cX4_readStatement 160 = .ok (.iaload, 1) := by decide +kernel
theorem dX4_readStatement_161 : decode cX4_readStatement 161 = .ok (.invokevirtual 79, 3) := by decide +kernel
theorem dX4_readStatement_164 : decode cX4_readStatement 164 = .ok (.ireturn, 1) := by decide +kernel
theorem dX4_mayBegin_0 : decode cX4_mayBegin 0 = .ok (.iload_n 1, 1) := by decide +kernel
theorem dX4_mayBegin_1 : decode cX4_mayBegin 1 = .ok (.ifCond .eq 15, 3) := by decide +kernel
theorem dX4_mayBegin_4 : decode cX4_mayBegin 4 = .ok (.iload_n 0, 1) := by decide +kernel
theorem dX4_mayBegin_5 : decode cX4_mayBegin 5 = .ok (.bipush 105, 2) := by decide +kernel
theorem dX4_mayBegin_7 : decode cX4_mayBegin 7 = .ok (.if_icmp .ne 7, 3) := by decide +kernel
theorem dX4_mayBegin_10 : decode cX4_mayBegin 10 = .ok (.iconst 1, 1) := by decide +kernel
theorem dX4_mayBegin_11 : decode cX4_mayBegin 11 = .ok (.goto 4, 3) := by decide +kernel
theorem dX4_mayBegin_14 : decode cX4_mayBegin 14 = .ok (.iconst 0, 1) := by decide +kernel
theorem dX4_mayBegin_15 : decode cX4_mayBegin 15 = .ok (.ireturn, 1) := by decide +kernel
theorem dX4_mayBegin_16 : decode cX4_mayBegin 16 = .ok (.iload_n 0, 1) := by decide +kernel
theorem dX4_mayBegin_17 : decode cX4_mayBegin 17 = .ok (.bipush 103, 2) := by decide +kernel
theorem dX4_mayBegin_19 : decode cX4_mayBegin 19 = .ok (.if_icmp .eq 15, 3) := by decide +kernel
theorem dX4_mayBegin_22 : decode cX4_mayBegin 22 = .ok (.iload_n 0, 1) := by decide +kernel
theorem dX4_mayBegin_23 : decode cX4_mayBegin 23 = .ok (.bipush 111, 2) := by decide +kernel
theorem dX4_mayBegin_25 : decode cX4_mayBegin 25 = .ok (.if_icmp .eq 9, 3) := by decide +kernel
theorem dX4_mayBegin_28 : decode cX4_mayBegin 28 = .ok (.iload_n 0, 1) := by decide +kernel
theorem dX4_mayBegin_29 : decode cX4_mayBegin 29 = .ok (.bipush 119, 2) := by decide +kernel
theorem dX4_mayBegin_31 : decode cX4_mayBegin 31 = .ok (.if_icmp .ne 7, 3) := by decide +kernel
theorem dX4_mayBegin_34 : decode cX4_mayBegin 34 = .ok (.iconst 1, 1) := by decide +kernel
theorem dX4_mayBegin_35 : decode cX4_mayBegin 35 = .ok (.goto 4, 3) := by decide +kernel
theorem dX4_mayBegin_38 : decode cX4_mayBegin 38 = .ok (.iconst 0, 1) := by decide +kernel
theorem dX4_mayBegin_39 : decode cX4_mayBegin 39 = .ok (.ireturn, 1) := by decide +kernel
set_option maxRecDepth 20000 in
theorem ggX4_readNumbers_X4_readNumber : GoodIn wsX4_readNumbers wsX4_readNumber := goodIn_r _ [9, 3, 4, 10, 11, 12, 13, 14, 15, 16, 17, 8, 18, 19, 20, 21, 22, 23, 24, 25, 26, 27] (by decide +kernel) (by decide +kernel)
set_option maxRecDepth 20000 in
theorem gX4_readNumbers_X4_readNumber : GoodIn wsX4_readNumbers (wsV RX4 82 RX4 yX4_readNumber wsX4_readNumber) := goodIn_app (goodIn_of _ (by decide +kernel)) ggX4_readNumbers_X4_readNumber
set_option maxRecDepth 20000 in
theorem ggX4_readNumbers_X2_at : GoodIn wsX4_readNumbers wsX2_at := goodIn_r _ [13, 14, 15, 26, 27] (by decide +kernel) (by decide +kernel)
set_option maxRecDepth 20000 in
theorem gX4_readNumbers_X2_at_n53 : GoodIn wsX4_readNumbers (wsX2_at) := ggX4_readNumbers_X2_at
theorem dX4_readNumbers_0 : decode cX4_readNumbers 0 = .ok (.aload_n 0, 1) := by decide +kernel
theorem dX4_readNumbers_1 : decode cX4_readNumbers 1 = .ok (.iconst 0, 1) := by decide +kernel
theorem dX4_readNumbers_2 : decode cX4_readNumbers 2 = .ok (.putfield 65, 3) := by decide +kernel
theorem dX4_readNumbers_5 : decode cX4_readNumbers 5 = .ok (.iconst 0, 1) := by decide +kernel
theorem dX4_readNumbers_6 : decode cX4_readNumbers 6 = .ok (.istore_n 2, 1) := by decide +kernel
theorem dX4_readNumbers_7 : decode cX4_readNumbers 7 = .ok (.iload_n 2, 1) := by decide +kernel
theorem dX4_readNumbers_8 : decode cX4_readNumbers 8 = .ok (.iload_n 1, 1) := by decide +kernel
theorem dX4_readNumbers_9 : decode cX4_readNumbers 9 = .ok (.if_icmp .ge 86, 3) := by decide +kernel
theorem dX4_readNumbers_12 : decode cX4_readNumbers 12 = .ok (.iload_n 2, 1) := by decide +kernel
theorem dX4_readNumbers_13 : decode cX4_readNumbers 13 = .ok (.iconst 3, 1) := by decide +kernel
theorem dX4_readNumbers_14 : decode cX4_readNumbers 14 = .ok (.if_icmp .ge 81, 3) := by decide +kernel
theorem dX4_readNumbers_17 : decode cX4_readNumbers 17 = .ok (.aload_n 0, 1) := by decide +kernel
theorem dX4_readNumbers_18 : decode cX4_readNumbers 18 = .ok (.invokevirtual 82, 3) := by decide +kernel
theorem dX4_readNumbers_21 : decode cX4_readNumbers 21 = .ok (.istore_n 3, 1) := by decide +kernel
theorem dX4_readNumbers_22 : decode cX4_readNumbers 22 = .ok (.iload_n 3, 1) := by decide +kernel
theorem dX4_readNumbers_23 : decode cX4_readNumbers 23 = .ok (.iconst (-1), 1) := by decide +kernel
theorem dX4_readNumbers_24 : decode cX4_readNumbers 24 = .ok (.if_icmp .ne 5, 3) := by decide +kernel
theorem dX4_readNumbers_27 : decode cX4_readNumbers 27 = .ok (.iconst 0, 1) := by decide +kernel
theorem dX4_readNumbers_28 : decode cX4_readNumbers 28 = .ok (.ireturn, 1) := by decide +kernel
theorem dX4_readNumbers_29 : decode cX4_readNumbers 29 = .ok (.aload_n 0, 1) := by decide +kernel
theorem dX4_readNumbers_30 : decode cX4_readNumbers 30 = .ok (.getfield 18, 3) := by decide +kernel
theorem dX4_readNumbers_33 : decode cX4_readNumbers 33 = .ok (.iload_n 2, 1) := by decide +kernel
theorem dX4_readNumbers_34 : decode cX4_readNumbers 34 = .ok (.iload_n 3, 1) := by decide +kernel
theorem dX4_readNumbers_35 : decode cX4_readNumbers 35 = .ok (.iastore, 1) := by decide +kernel
theorem dX4_readNumbers_36 : decode cX4_readNumbers 36 = .ok (.aload_n 0, 1) := by decide +kernel
theorem dX4_readNumbers_37 : decode cX4_readNumbers 37 = .ok (.dup, 1) := by decide +kernel
theorem dX4_readNumbers_38 : decode cX4_readNumbers 38 = .ok (.getfield 65, 3) := by decide +kernel
theorem dX4_readNumbers_41 : decode cX4_readNumbers 41 = .ok (.iconst 1, 1) := by decide +kernel
theorem dX4_readNumbers_42 : decode cX4_readNumbers 42 = .ok (.iadd, 1) := by decide +kernel
theorem dX4_readNumbers_43 : decode cX4_readNumbers 43 = .ok (.putfield 65, 3) := by decide +kernel
theorem dX4_readNumbers_46 : decode cX4_readNumbers 46 = .ok (.aload_n 0, 1) := by decide +kernel
theorem dX4_readNumbers_47 : decode cX4_readNumbers 47 = .ok (.getfield 22, 3) := by decide +kernel
theorem dX4_readNumbers_50 : decode cX4_readNumbers 50 = .ok (.aload_n 0, 1) := by decide +kernel
theorem dX4_readNumbers_51 : decode cX4_readNumbers 51 = .ok (.getfield 33, 3) := by decide +kernel
theorem dX4_readNumbers_54 : decode cX4_readNumbers 54 = .ok (.invokevirtual 53, 3) := by decide +kernel
theorem dX4_readNumbers_57 : decode cX4_readNumbers 57 = .ok (.istore 4, 2) := by decide +kernel
theorem dX4_readNumbers_59 : decode cX4_readNumbers 59 = .ok (.aload_n 0, 1) := by decide +kernel
theorem dX4_readNumbers_60 : decode cX4_readNumbers 60 = .ok (.dup, 1) := by decide +kernel
theorem dX4_readNumbers_61 : decode cX4_readNumbers 61 = .ok (.getfield 33, 3) := by decide +kernel
theorem dX4_readNumbers_64 : decode cX4_readNumbers 64 = .ok (.iconst 1, 1) := by decide +kernel
theorem dX4_readNumbers_65 : decode cX4_readNumbers 65 = .ok (.iadd, 1) := by decide +kernel
theorem dX4_readNumbers_66 : decode cX4_readNumbers 66 = .ok (.putfield 33, 3) := by decide +kernel
theorem dX4_readNumbers_69 : decode cX4_readNumbers 69 = .ok (.iload 4, 2) := by decide +kernel
theorem dX4_readNumbers_71 : decode cX4_readNumbers 71 = .ok (.bipush 44, 2) := by decide +kernel
theorem dX4_readNumbers_73 : decode cX4_readNumbers 73 = .ok (.if_icmp .eq 16, 3) := by decide +kernel
theorem dX4_readNumbers_76 : decode cX4_readNumbers 76 = .ok (.iload 4, 2) := by decide +kernel
theorem dX4_readNumbers_78 : decode cX4_readNumbers 78 = .ok (.bipush 59, 2) := by decide +kernel
theorem dX4_readNumbers_80 : decode cX4_readNumbers 80 = .ok (.if_icmp .ne 7, 3) := by decide +kernel
theorem dX4_readNumbers_83 : decode cX4_readNumbers 83 = .ok (.iconst 1, 1) := by decide +kernel
theorem dX4_readNumbers_84 : decode cX4_readNumbers 84 = .ok (.goto 4, 3) := by decide +kernel
theorem dX4_readNumbers_87 : decode cX4_readNumbers 87 = .ok (.iconst 0, 1) := by decide +kernel
theorem dX4_readNumbers_88 : decode cX4_readNumbers 88 = .ok (.ireturn, 1) := by decide +kernel
theorem dX4_readNumbers_89 : decode cX4_readNumbers 89 = .ok (.iinc 2 1, 3) := by decide +kernel
theorem dX4_readNumbers_92 : decode cX4_readNumbers 92 = .ok (.goto (-85), 3) := by decide +kernel
theorem dX4_readNumbers_95 : decode cX4_readNumbers 95 = .ok (.iconst 0, 1) := by decide +kernel
theorem dX4_readNumbers_96 : decode cX4_readNumbers 96 = .ok (.ireturn, 1) := by decide +kernel
set_option maxRecDepth 20000 in
theorem ggX4_readNumber_X2_at : GoodIn wsX4_readNumber wsX2_at := goodIn_r _ [6, 7, 8, 20, 21] (by decide +kernel) (by decide +kernel)
set_option maxRecDepth 20000 in
theorem gX4_readNumber_X2_at_n53 : GoodIn wsX4_readNumber (wsX2_at) := ggX4_readNumber_X2_at
set_option maxRecDepth 20000 in
theorem ggX4_readNumber_X4_isDigit : GoodIn wsX4_readNumber wsX4_isDigit := goodIn_r _ [12] (by decide +kernel) (by decide +kernel)
set_option maxRecDepth 20000 in
theorem gX4_readNumber_X4_isDigit : GoodIn wsX4_readNumber (va_wsS RX4 85 yX4_isDigit wsX4_isDigit) := goodIn_app (goodIn_of _ (by decide +kernel)) ggX4_readNumber_X4_isDigit
theorem dX4_readNumber_0 : decode cX4_readNumber 0 = .ok (.aload_n 0, 1) := by decide +kernel
theorem dX4_readNumber_1 : decode cX4_readNumber 1 = .ok (.getfield 22, 3) := by decide +kernel
theorem dX4_readNumber_4 : decode cX4_readNumber 4 = .ok (.aload_n 0, 1) := by decide +kernel
theorem dX4_readNumber_5 : decode cX4_readNumber 5 = .ok (.getfield 33, 3) := by decide +kernel
theorem dX4_readNumber_8 : decode cX4_readNumber 8 = .ok (.invokevirtual 53, 3) := by decide +kernel
theorem dX4_readNumber_11 : decode cX4_readNumber 11 = .ok (.invokestatic 85, 3) := by decide +kernel
theorem dX4_readNumber_14 : decode cX4_readNumber 14 = .ok (.ifCond .ne 5, 3) := by decide +kernel
theorem dX4_readNumber_17 : decode cX4_readNumber 17 = .ok (.iconst (-1), 1) := by decide +kernel
theorem dX4_readNumber_18 : decode cX4_readNumber 18 = .ok (.ireturn, 1) := by decide +kernel
theorem dX4_readNumber_19 : decode cX4_readNumber 19 = .ok (.aload_n 0, 1) := by decide +kernel
theorem dX4_readNumber_20 : decode cX4_readNumber 20 = .ok (.getfield 22, 3) := by decide +kernel
theorem dX4_readNumber_23 : decode cX4_readNumber 23 = .ok (.aload_n 0, 1) := by decide +kernel
theorem dX4_readNumber_24 : decode cX4_readNumber 24 = .ok (.getfield 33, 3) := by decide +kernel
theorem dX4_readNumber_27 : decode cX4_readNumber 27 = .ok (.invokevirtual 53, 3) := by decide +kernel
theorem dX4_readNumber_30 : decode cX4_readNumber 30 = .ok (.bipush 48, 2) := by decide +kernel
theorem dX4_readNumber_32 : decode cX4_readNumber 32 = .ok (.isub, 1) := by decide +kernel
theorem dX4_readNumber_33 : decode cX4_readNumber 33 = .ok (.istore_n 1, 1) := by decide +kernel
theorem dX4_readNumber_34 : decode cX4_readNumber 34 = .ok (.aload_n 0, 1) := by decide +kernel
theorem dX4_readNumber_35 : decode cX4_readNumber 35 = .ok (.dup, 1) := by decide +kernel
theorem dX4_readNumber_36 : decode cX4_readNumber 36 = .ok (.getfield 33, 3) := by decide +kernel
theorem dX4_readNumber_39 : decode cX4_readNumber 39 = .ok (.iconst 1, 1) := by decide +kernel
theorem dX4_readNumber_40 : decode cX4_readNumber 40 = .ok (.iadd, 1) := by decide +kernel
theorem dX4_readNumber_41 : decode cX4_readNumber 41 = .ok (.putfield 33, 3) := by decide +kernel
theorem dX4_readNumber_44 : decode cX4_readNumber 44 = .ok (.aload_n 0, 1) := by decide +kernel
theorem dX4_readNumber_45 : decode cX4_readNumber 45 = .ok (.getfield 22, 3) := by decide +kernel
theorem dX4_readNumber_48 : decode cX4_readNumber 48 = .ok (.aload_n 0, 1) := by decide +kernel
theorem dX4_readNumber_49 : decode cX4_readNumber 49 = .ok (.getfield 33, 3) := by decide +kernel
theorem dX4_readNumber_52 : decode cX4_readNumber 52 = .ok (.invokevirtual 53, 3) := by decide +kernel
theorem dX4_readNumber_55 : decode cX4_readNumber 55 = .ok (.invokestatic 85, 3) := by decide +kernel
theorem dX4_readNumber_58 : decode cX4_readNumber 58 = .ok (.ifCond .eq 33, 3) := by decide +kernel
theorem dX4_readNumber_61 : decode cX4_readNumber 61 = .ok (.bipush 10, 2) := by decide +kernel
theorem dX4_readNumber_63 : decode cX4_readNumber 63 = .ok (.iload_n 1, 1) := by decide +kernel
theorem dX4_readNumber_64 : decode cX4_readNumber 64 = .ok (.imul, 1) := by decide +kernel
theorem dX4_readNumber_65 : decode cX4_readNumber 65 = .ok (.aload_n 0, 1) := by decide +kernel
theorem dX4_readNumber_66 : decode cX4_readNumber 66 = .ok (.getfield 22, 3) := by decide +kernel
theorem dX4_readNumber_69 : decode cX4_readNumber 69 = .ok (.aload_n 0, 1) := by decide +kernel
theorem dX4_readNumber_70 : decode cX4_readNumber 70 = .ok (.getfield 33, 3) := by decide +kernel
theorem dX4_readNumber_73 : decode cX4_readNumber 73 = .ok (.invokevirtual 53, 3) := by decide +kernel
theorem dX4_readNumber_76 : decode cX4_readNumber 76 = .ok (.iadd, 1) := by decide +kernel
theorem dX4_readNumber_77 : decode cX4_readNumber 77 = .ok (.bipush 48, 2) := by decide +kernel
theorem dX4_readNumber_79 : decode cX4_readNumber 79 = .ok (.isub, 1) := by decide +kernel
theorem dX4_readNumber_80 : decode cX4_readNumber 80 = .ok (.istore_n 1, 1) := by decide +kernel
theorem dX4_readNumber_81 : decode cX4_readNumber 81 = .ok (.aload_n 0, 1) := by decide +kernel
theorem dX4_readNumber_82 : decode cX4_readNumber 82 = .ok (.dup, 1) := by decide +kernel
theorem dX4_readNumber_83 : decode cX4_readNumber 83 = .ok (.getfield 33, 3) := by decide +kernel
theorem dX4_readNumber_86 : decode cX4_readNumber 86 = .ok (.iconst 1, 1) := by decide +kernel
theorem dX4_readNumber_87 : decode cX4_readNumber 87 = .ok (.iadd, 1) := by decide +kernel
theorem dX4_readNumber_88 : decode cX4_readNumber 88 = .ok (.putfield 33, 3) := by decide +kernel
theorem dX4_readNumber_91 : decode cX4_readNumber 91 = .ok (.iload_n 1, 1) := by decide +kernel
theorem dX4_readNumber_92 : decode cX4_readNumber 92 = .ok (.ireturn, 1) := by decide +kernel
theorem dX4_isDigit_0 : decode cX4_isDigit 0 = .ok (.iload_n 0, 1) := by decide +kernel
theorem dX4_isDigit_1 : decode cX4_isDigit 1 = .ok (.bipush 48, 2) := by decide +kernel
theorem dX4_isDigit_3 : decode cX4_isDigit 3 = .ok (.if_icmp .lt 13, 3) := by decide +kernel
theorem dX4_isDigit_6 : decode cX4_isDigit 6 = .ok (.iload_n 0, 1) := by decide +kernel
theorem dX4_isDigit_7 : decode cX4_isDigit 7 = .ok (.bipush 57, 2) := by decide +kernel
theorem dX4_isDigit_9 : decode cX4_isDigit 9 = .ok (.if_icmp .gt 7, 3) := by decide +kernel
theorem dX4_isDigit_12 : decode cX4_isDigit 12 = .ok (.iconst 1, 1) := by decide +kernel
theorem dX4_isDigit_13 : decode cX4_isDigit 13 = .ok (.goto 4, 3) := by decide +kernel
theorem dX4_isDigit_16 : decode cX4_isDigit 16 = .ok (.iconst 0, 1) := by decide +kernel
theorem dX4_isDigit_17 : decode cX4_isDigit 17 = .ok (.ireturn, 1) := by decide +kernel
set_option maxRecDepth 20000 in
theorem ggX4_takeInputs_X1_begin : GoodIn wsX4_takeInputs wsX1_begin := goodIn_r _ [5, 6, 7, 8, 9, 10, 18, 19, 20, 21, 22, 23, 24, 25, 26, 27] (by decide +kernel) (by decide +kernel)
set_option maxRecDepth 20000 in
theorem gX4_takeInputs_X1_begin_n89 : GoodIn wsX4_takeInputs (wsX1_begin) := ggX4_takeInputs_X1_begin
theorem dX4_takeInputs_0 : decode cX4_takeInputs 0 = .ok (.iload_n 1, 1) := by decide +kernel
theorem dX4_takeInputs_1 : decode cX4_takeInputs 1 = .ok (.iconst 1, 1) := by decide +kernel
theorem dX4_takeInputs_2 : decode cX4_takeInputs 2 = .ok (.if_icmp .lt 9, 3) := by decide +kernel
theorem dX4_takeInputs_5 : decode cX4_takeInputs 5 = .ok (.iload_n 1, 1) := by decide +kernel
theorem dX4_takeInputs_6 : decode cX4_takeInputs 6 = .ok (.bipush 6, 2) := by decide +kernel
theorem dX4_takeInputs_8 : decode cX4_takeInputs 8 = .ok (.if_icmp .le 5, 3) := by decide +kernel
theorem dX4_takeInputs_11 : decode cX4_takeInputs 11 = .ok (.iconst 3, 1) := by decide +kernel
theorem dX4_takeInputs_12 : decode cX4_takeInputs 12 = .ok (.ireturn, 1) := by decide +kernel
theorem dX4_takeInputs_13 : decode cX4_takeInputs 13 = .ok (.aload_n 0, 1) := by decide +kernel
theorem dX4_takeInputs_14 : decode cX4_takeInputs 14 = .ok (.getfield 12, 3) := by decide +kernel
theorem dX4_takeInputs_17 : decode cX4_takeInputs 17 = .ok (.iload_n 1, 1) := by decide +kernel
theorem dX4_takeInputs_18 : decode cX4_takeInputs 18 = .ok (.invokevirtual 89, 3) := by decide +kernel
theorem dX4_takeInputs_21 : decode cX4_takeInputs 21 = .ok (.iconst 0, 1) := by decide +kernel
theorem dX4_takeInputs_22 : decode cX4_takeInputs 22 = .ok (.ireturn, 1) := by decide +kernel
set_option maxRecDepth 20000 in
theorem ggX4_takeGate_X5_operandsOfType : GoodIn wsX4_takeGate wsX5_operandsOfType := goodIn_r _ [5] (by decide +kernel) (by decide +kernel)
set_option maxRecDepth 20000 in
theorem gX4_takeGate_X5_operandsOfType_n93 : GoodIn wsX4_takeGate (wsX5_operandsOfType) := ggX4_takeGate_X5_operandsOfType
set_option maxRecDepth 20000 in
theorem ggX4_takeGate_X1_hasNode : GoodIn wsX4_takeGate wsX1_hasNode := goodIn_r _ [9, 10, 32, 33, 34, 35, 36, 37, 38, 39, 40, 41] (by decide +kernel) (by decide +kernel)
set_option maxRecDepth 20000 in
theorem gX4_takeGate_X1_hasNode_n96 : GoodIn wsX4_takeGate (wsX1_hasNode) := ggX4_takeGate_X1_hasNode
set_option maxRecDepth 20000 in
theorem ggX4_takeGate_X1_hasRoomFor : GoodIn wsX4_takeGate wsX1_hasRoomFor := goodIn_r _ [13, 14, 15, 16, 7, 17, 10, 18, 32, 33, 34, 35, 36, 37, 38, 39, 40, 41] (by decide +kernel) (by decide +kernel)
set_option maxRecDepth 20000 in
theorem gX4_takeGate_X1_hasRoomFor_n99 : GoodIn wsX4_takeGate (wsX1_hasRoomFor) := ggX4_takeGate_X1_hasRoomFor
set_option maxRecDepth 20000 in
theorem ggX4_takeGate_X1_putGate : GoodIn wsX4_takeGate wsX1_putGate := goodIn_r _ [21, 10, 22, 23, 24, 32, 33, 34, 35, 36, 37, 38, 39, 40, 41] (by decide +kernel) (by decide +kernel)
set_option maxRecDepth 20000 in
theorem gX4_takeGate_X1_putGate_n102 : GoodIn wsX4_takeGate (wsX1_putGate) := ggX4_takeGate_X1_putGate
theorem dX4_takeGate_0 : decode cX4_takeGate 0 = .ok (.aload_n 0, 1) := by decide +kernel
theorem dX4_takeGate_1 : decode cX4_takeGate 1 = .ok (.getfield 65, 3) := by decide +kernel
theorem dX4_takeGate_4 : decode cX4_takeGate 4 = .ok (.iconst 1, 1) := by decide +kernel
theorem dX4_takeGate_5 : decode cX4_takeGate 5 = .ok (.isub, 1) := by decide +kernel
theorem dX4_takeGate_6 : decode cX4_takeGate 6 = .ok (.istore 4, 2) := by decide +kernel
theorem dX4_takeGate_8 : decode cX4_takeGate 8 = .ok (.iload_n 1, 1) := by decide +kernel
theorem dX4_takeGate_9 : decode cX4_takeGate 9 = .ok (.iconst 5, 1) := by decide +kernel
theorem dX4_takeGate_10 : decode cX4_takeGate 10 = .ok (.if_icmp .gt 23, 3) := by decide +kernel
theorem dX4_takeGate_13 : decode cX4_takeGate 13 = .ok (.iload_n 1, 1) := by decide +kernel
theorem dX4_takeGate_14 : decode cX4_takeGate 14 = .ok (.invokestatic 93, 3) := by decide +kernel
theorem dX4_takeGate_17 : decode cX4_takeGate 17 = .ok (.iload 4, 2) := by decide +kernel
theorem dX4_takeGate_19 : decode cX4_takeGate 19 = .ok (.if_icmp .ne 14, 3) := by decide +kernel
theorem dX4_takeGate_22 : decode cX4_takeGate 22 = .ok (.aload_n 0, 1) := by decide +kernel
theorem dX4_takeGate_23 : decode cX4_takeGate 23 = .ok (.getfield 12, 3) := by decide +kernel
theorem dX4_takeGate_26 : decode cX4_takeGate 26 = .ok (.iload_n 2, 1) := by decide +kernel
theorem dX4_takeGate_27 : decode cX4_takeGate 27 = .ok (.invokevirtual 96, 3) := by decide +kernel
theorem dX4_takeGate_30 : decode cX4_takeGate 30 = .ok (.ifCond .ne 5, 3) := by decide +kernel
theorem dX4_takeGate_33 : decode cX4_takeGate 33 = .ok (.iconst 3, 1) := by decide +kernel
theorem dX4_takeGate_34 : decode cX4_takeGate 34 = .ok (.ireturn, 1) := by decide +kernel
theorem dX4_takeGate_35 : decode cX4_takeGate 35 = .ok (.iload 4, 2) := by decide +kernel
theorem dX4_takeGate_37 : decode cX4_takeGate 37 = .ok (.iconst 2, 1) := by decide +kernel
theorem dX4_takeGate_38 : decode cX4_takeGate 38 = .ok (.if_icmp .ne 16, 3) := by decide +kernel
theorem dX4_takeGate_41 : decode cX4_takeGate 41 = .ok (.aload_n 0, 1) := by decide +kernel
theorem dX4_takeGate_42 : decode cX4_takeGate 42 = .ok (.getfield 12, 3) := by decide +kernel
theorem dX4_takeGate_45 : decode cX4_takeGate 45 = .ok (.iload_n 3, 1) := by decide +kernel
theorem dX4_takeGate_46 : decode cX4_takeGate 46 = .ok (.invokevirtual 96, 3) := by decide +kernel
theorem dX4_takeGate_49 : decode cX4_takeGate 49 = .ok (.ifCond .ne 5, 3) := by decide +kernel
theorem dX4_takeGate_52 : decode cX4_takeGate 52 = .ok (.iconst 3, 1) := by decide +kernel
theorem dX4_takeGate_53 : decode cX4_takeGate 53 = .ok (.ireturn, 1) := by decide +kernel
theorem dX4_takeGate_54 : decode cX4_takeGate 54 = .ok (.aload_n 0, 1) := by decide +kernel
theorem dX4_takeGate_55 : decode cX4_takeGate 55 = .ok (.getfield 12, 3) := by decide +kernel
theorem dX4_takeGate_58 : decode cX4_takeGate 58 = .ok (.iconst 1, 1) := by decide +kernel
theorem dX4_takeGate_59 : decode cX4_takeGate 59 = .ok (.invokevirtual 99, 3) := by decide +kernel
theorem dX4_takeGate_62 : decode cX4_takeGate 62 = .ok (.ifCond .ne 5, 3) := by decide +kernel
theorem dX4_takeGate_65 : decode cX4_takeGate 65 = .ok (.iconst 4, 1) := by decide +kernel
theorem dX4_takeGate_66 : decode cX4_takeGate 66 = .ok (.ireturn, 1) := by decide +kernel
theorem dX4_takeGate_67 : decode cX4_takeGate 67 = .ok (.aload_n 0, 1) := by decide +kernel
theorem dX4_takeGate_68 : decode cX4_takeGate 68 = .ok (.getfield 12, 3) := by decide +kernel
theorem dX4_takeGate_71 : decode cX4_takeGate 71 = .ok (.iload_n 1, 1) := by decide +kernel
theorem dX4_takeGate_72 : decode cX4_takeGate 72 = .ok (.iload_n 2, 1) := by decide +kernel
theorem dX4_takeGate_73 : decode cX4_takeGate 73 = .ok (.iload_n 3, 1) := by decide +kernel
theorem dX4_takeGate_74 : decode cX4_takeGate 74 = .ok (.invokevirtual 102, 3) := by decide +kernel
theorem dX4_takeGate_77 : decode cX4_takeGate 77 = .ok (.pop, 1) := by decide +kernel
theorem dX4_takeGate_78 : decode cX4_takeGate 78 = .ok (.iconst 0, 1) := by decide +kernel
theorem dX4_takeGate_79 : decode cX4_takeGate 79 = .ok (.ireturn, 1) := by decide +kernel
set_option maxRecDepth 20000 in
theorem ggX4_takeOutput_X1_hasNode : GoodIn wsX4_takeOutput wsX1_hasNode := goodIn_r _ [5, 6, 19, 20, 21, 22, 23, 24, 25, 26, 27, 28] (by decide +kernel) (by decide +kernel)
set_option maxRecDepth 20000 in
theorem gX4_takeOutput_X1_hasNode_n96 : GoodIn wsX4_takeOutput (wsX1_hasNode) := ggX4_takeOutput_X1_hasNode
set_option maxRecDepth 20000 in
theorem ggX4_takeOutput_X1_putOutput : GoodIn wsX4_takeOutput wsX1_putOutput := goodIn_r _ [9, 10, 11, 19, 20, 21, 22, 23, 24, 25, 26, 27, 28] (by decide +kernel) (by decide +kernel)
set_option maxRecDepth 20000 in
theorem gX4_takeOutput_X1_putOutput_n108 : GoodIn wsX4_takeOutput (wsX1_putOutput) := ggX4_takeOutput_X1_putOutput
theorem dX4_takeOutput_0 : decode cX4_takeOutput 0 = .ok (.aload_n 0, 1) := by decide +kernel
theorem dX4_takeOutput_1 : decode cX4_takeOutput 1 = .ok (.getfield 12, 3) := by decide +kernel
theorem dX4_takeOutput_4 : decode cX4_takeOutput 4 = .ok (.iload_n 1, 1) := by decide +kernel
theorem dX4_takeOutput_5 : decode cX4_takeOutput 5 = .ok (.invokevirtual 96, 3) := by decide +kernel
theorem dX4_takeOutput_8 : decode cX4_takeOutput 8 = .ok (.ifCond .ne 5, 3) := by decide +kernel
theorem dX4_takeOutput_11 : decode cX4_takeOutput 11 = .ok (.iconst 3, 1) := by decide +kernel
theorem dX4_takeOutput_12 : decode cX4_takeOutput 12 = .ok (.ireturn, 1) := by decide +kernel
theorem dX4_takeOutput_13 : decode cX4_takeOutput 13 = .ok (.aload_n 0, 1) := by decide +kernel
theorem dX4_takeOutput_14 : decode cX4_takeOutput 14 = .ok (.getfield 12, 3) := by decide +kernel
theorem dX4_takeOutput_17 : decode cX4_takeOutput 17 = .ok (.getfield 105, 3) := by decide +kernel
theorem dX4_takeOutput_20 : decode cX4_takeOutput 20 = .ok (.bipush 6, 2) := by decide +kernel
theorem dX4_takeOutput_22 : decode cX4_takeOutput 22 = .ok (.if_icmp .lt 5, 3) := by decide +kernel
theorem dX4_takeOutput_25 : decode cX4_takeOutput 25 = .ok (.iconst 4, 1) := by decide +kernel
theorem dX4_takeOutput_26 : decode cX4_takeOutput 26 = .ok (.ireturn, 1) := by decide +kernel
theorem dX4_takeOutput_27 : decode cX4_takeOutput 27 = .ok (.aload_n 0, 1) := by decide +kernel
theorem dX4_takeOutput_28 : decode cX4_takeOutput 28 = .ok (.getfield 12, 3) := by decide +kernel
theorem dX4_takeOutput_31 : decode cX4_takeOutput 31 = .ok (.iload_n 1, 1) := by decide +kernel
theorem dX4_takeOutput_32 : decode cX4_takeOutput 32 = .ok (.invokevirtual 108, 3) := by decide +kernel
theorem dX4_takeOutput_35 : decode cX4_takeOutput 35 = .ok (.iconst 0, 1) := by decide +kernel
theorem dX4_takeOutput_36 : decode cX4_takeOutput 36 = .ok (.ireturn, 1) := by decide +kernel
set_option maxRecDepth 20000 in
theorem ggX4_takeNormal_X1_hasWord : GoodIn wsX4_takeNormal wsX1_hasWord := goodIn_r _ [5, 6, 14, 15, 16, 17, 18, 19, 20, 21, 22, 23] (by decide +kernel) (by decide +kernel)
set_option maxRecDepth 20000 in
theorem gX4_takeNormal_X1_hasWord_n111 : GoodIn wsX4_takeNormal (wsX1_hasWord) := ggX4_takeNormal_X1_hasWord
theorem dX4_takeNormal_0 : decode cX4_takeNormal 0 = .ok (.aload_n 0, 1) := by decide +kernel
theorem dX4_takeNormal_1 : decode cX4_takeNormal 1 = .ok (.getfield 12, 3) := by decide +kernel
theorem dX4_takeNormal_4 : decode cX4_takeNormal 4 = .ok (.iload_n 1, 1) := by decide +kernel
theorem dX4_takeNormal_5 : decode cX4_takeNormal 5 = .ok (.invokevirtual 111, 3) := by decide +kernel
theorem dX4_takeNormal_8 : decode cX4_takeNormal 8 = .ok (.ifCond .ne 5, 3) := by decide +kernel
theorem dX4_takeNormal_11 : decode cX4_takeNormal 11 = .ok (.iconst 3, 1) := by decide +kernel
theorem dX4_takeNormal_12 : decode cX4_takeNormal 12 = .ok (.ireturn, 1) := by decide +kernel
theorem dX4_takeNormal_13 : decode cX4_takeNormal 13 = .ok (.aload_n 0, 1) := by decide +kernel
theorem dX4_takeNormal_14 : decode cX4_takeNormal 14 = .ok (.getfield 12, 3) := by decide +kernel
theorem dX4_takeNormal_17 : decode cX4_takeNormal 17 = .ok (.dup, 1) := by decide +kernel
theorem dX4_takeNormal_18 : decode cX4_takeNormal 18 = .ok (.getfield 45, 3) := by decide +kernel
theorem dX4_takeNormal_21 : decode cX4_takeNormal 21 = .ok (.lconst 1, 1) := by decide +kernel
theorem dX4_takeNormal_22 : decode cX4_takeNormal 22 = .ok (.iload_n 1, 1) := by decide +kernel
theorem dX4_takeNormal_23 : decode cX4_takeNormal 23 = .ok (.lshl, 1) := by decide +kernel
theorem dX4_takeNormal_24 : decode cX4_takeNormal 24 = .ok (.lor, 1) := by decide +kernel
theorem dX4_takeNormal_25 : decode cX4_takeNormal 25 = .ok (.putfield 45, 3) := by decide +kernel
theorem dX4_takeNormal_28 : decode cX4_takeNormal 28 = .ok (.iconst 0, 1) := by decide +kernel
theorem dX4_takeNormal_29 : decode cX4_takeNormal 29 = .ok (.ireturn, 1) := by decide +kernel
set_option maxRecDepth 20000 in
theorem ggX5_init_X2_init : GoodIn wsX5_init wsX2_init := goodIn_r _ [25, 26, 2, 3, 27, 28, 202, 203] (by decide +kernel) (by decide +kernel)
set_option maxRecDepth 20000 in
theorem gX5_init_X2_init_n11 : GoodIn wsX5_init (wsX2_init) := ggX5_init_X2_init
set_option maxRecDepth 20000 in
theorem ggX5_init_X4_init : GoodIn wsX5_init wsX4_init := goodIn_r _ [30, 31, 2, 3, 32, 13, 14, 33, 34, 35, 36, 37, 38, 39, 40, 41, 42, 43, 216, 217, 218, 219, 220, 221, 222, 223, 224, 225, 209, 210, 211, 212, 213, 214, 215] (by decide +kernel) (by decide +kernel)
set_option maxRecDepth 20000 in
theorem gX5_init_X4_init_n18 : GoodIn wsX5_init (wsX4_init) := ggX5_init_X4_init
set_option maxRecDepth 20000 in
theorem ggX5_init_X1_init : GoodIn wsX5_init wsX1_init := goodIn_r _ [38, 39, 2, 3, 34, 40, 41, 42, 43, 216, 217, 218, 219, 220, 221, 222, 223, 224, 225] (by decide +kernel) (by decide +kernel)
set_option maxRecDepth 20000 in
theorem gX5_init_X1_init_n27 : GoodIn wsX5_init (wsX1_init) := ggX5_init_X1_init
set_option maxRecDepth 20000 in
theorem ggX5_init_X3_init : GoodIn wsX5_init wsX3_init := goodIn_r _ [45, 46, 2, 3, 47, 48, 13, 14, 37, 38, 39, 34, 40, 41, 42, 43, 226, 227, 228, 216, 217, 218, 219, 220, 221, 222, 223, 224, 225] (by decide +kernel) (by decide +kernel)
set_option maxRecDepth 20000 in
theorem gX5_init_X3_init_n34 : GoodIn wsX5_init (wsX3_init) := ggX5_init_X3_init
set_option maxRecDepth 20000 in
theorem ggX5_init_X0_init : GoodIn wsX5_init wsX0_init := goodIn_r _ [50, 51, 2, 3, 52, 53, 54, 55, 56, 57, 58, 229, 230, 231, 232, 233, 234] (by decide +kernel) (by decide +kernel)
set_option maxRecDepth 20000 in
theorem gX5_init_X0_init_n41 : GoodIn wsX5_init (wsX0_init) := ggX5_init_X0_init
set_option maxRecDepth 20000 in
theorem ggX5_init_J0_length_8abf5 : GoodIn wsX5_init wsJ0_length_8abf5 := goodIn_r _ [63, 64, 65, 66, 67, 62, 68, 69, 70] (by decide +kernel) (by decide +kernel)
set_option maxRecDepth 20000 in
theorem gX5_init_J0_length_8abf5 : GoodIn wsX5_init (wsV RX5 54 RJ0 yJ0_length_8abf5 wsJ0_length_8abf5) := goodIn_app (goodIn_of _ (by decide +kernel)) ggX5_init_J0_length_8abf5
set_option maxRecDepth 20000 in
theorem ggX5_init_J0_charAt_5068e : GoodIn wsX5_init wsJ0_charAt_5068e := goodIn_r _ [74, 64, 75, 76, 77, 62, 78, 69, 70, 79, 80, 81, 82, 83, 84, 85, 86, 87, 88, 89, 90, 91, 92, 93, 94, 95, 96, 97, 98, 99, 100, 101, 102, 103, 104, 105, 106, 107] (by decide +kernel) (by decide +kernel)
set_option maxRecDepth 20000 in
theorem gX5_init_J0_charAt_5068e : GoodIn wsX5_init (wsV RX5 60 RJ0 yJ0_charAt_5068e wsJ0_charAt_5068e) := goodIn_app (goodIn_of _ (by decide +kernel)) ggX5_init_J0_charAt_5068e
set_option maxRecDepth 20000 in
theorem ggX5_init_X2_put : GoodIn wsX5_init wsX2_put := goodIn_r _ [110, 111, 28, 202, 203] (by decide +kernel) (by decide +kernel)
set_option maxRecDepth 20000 in
theorem gX5_init_X2_put_n64 : GoodIn wsX5_init (wsX2_put) := ggX5_init_X2_put
set_option maxRecDepth 20000 in
theorem ggX5_init_X5_takeText : GoodIn wsX5_init wsX5_takeText := goodIn_r _ [116, 11, 7, 15, 19, 117, 10, 118, 119, 120, 121, 122, 36, 33, 123, 124, 125, 126, 127, 35, 128, 6, 129, 130, 111, 28, 131, 132, 133, 134, 135, 136, 137, 138, 139, 140, 141, 142, 143, 144, 145, 146, 147, 148, 149, 14, 150, 151, 152, 153, 154, 155, 40, 156, 157, 158, 159, 160, 115, 161, 162, 163, 164, 165, 166, 167, 168, 169, 170, 171, 172, 173, 174, 41, 42, 175, 176, 177, 178, 179, 180, 181, 43, 182, 183, 184, 185, 186, 187, 188, 189, 190, 191, 192, 193, 194, 195, 196, 197, 198, 199, 200, 201, 204, 205, 206, 207, 208, 202, 203, 209, 210, 211, 212, 213, 214, 215, 216, 217, 218, 219, 220, 221, 222, 223, 224, 225, 226, 227, 228] (by decide +kernel) (by decide +kernel)
set_option maxRecDepth 20000 in
theorem gX5_init_X5_takeText : GoodIn wsX5_init (wsV RX5 68 RX5 yX5_takeText wsX5_takeText) := goodIn_app (goodIn_of _ (by decide +kernel)) ggX5_init_X5_takeText
theorem dX5_init_0 : decode cX5_init 0 = .ok (.aload_n 0, 1) := by decide +kernel
theorem dX5_init_1 : decode cX5_init 1 = .ok (.invokespecial 3, 3) := by decide +kernel
theorem dX5_init_4 : decode cX5_init 4 = .ok (.aload_n 0, 1) := by decide +kernel
theorem dX5_init_5 : decode cX5_init 5 = .ok (.new 9, 3) := by decide +kernel
theorem dX5_init_8 : decode cX5_init 8 = .ok (.dup, 1) := by decide +kernel
theorem dX5_init_9 : decode cX5_init 9 = .ok (.invokespecial 11, 3) := by decide +kernel
theorem dX5_init_12 : decode cX5_init 12 = .ok (.putfield 12, 3) := by decide +kernel
theorem dX5_init_15 : decode cX5_init 15 = .ok (.aload_n 0, 1) := by decide +kernel
theorem dX5_init_16 : decode cX5_init 16 = .ok (.new 16, 3) := by decide +kernel
theorem dX5_init_19 : decode cX5_init 19 = .ok (.dup, 1) := by decide +kernel
theorem dX5_init_20 : decode cX5_init 20 = .ok (.aload_n 0, 1) := by decide +kernel
theorem dX5_init_21 : decode cX5_init 21 = .ok (.getfield 12, 3) := by decide +kernel
theorem dX5_init_24 : decode cX5_init 24 = .ok (.invokespecial 18, 3) := by decide +kernel
theorem dX5_init_27 : decode cX5_init 27 = .ok (.putfield 21, 3) := by decide +kernel
theorem dX5_init_30 : decode cX5_init 30 = .ok (.aload_n 0, 1) := by decide +kernel
theorem dX5_init_31 : decode cX5_init 31 = .ok (.new 25, 3) := by decide +kernel
theorem dX5_init_34 : decode cX5_init 34 = .ok (.dup, 1) := by decide +kernel
theorem dX5_init_35 : decode cX5_init 35 = .ok (.invokespecial 27, 3) := by decide +kernel
theorem dX5_init_38 : decode cX5_init 38 = .ok (.putfield 28, 3) := by decide +kernel
theorem dX5_init_41 : decode cX5_init 41 = .ok (.aload_n 0, 1) := by decide +kernel
theorem dX5_init_42 : decode cX5_init 42 = .ok (.new 32, 3) := by decide +kernel
theorem dX5_init_45 : decode cX5_init 45 = .ok (.dup, 1) := by decide +kernel
theorem dX5_init_46 : decode cX5_init 46 = .ok (.invokespecial 34, 3) := by decide +kernel
theorem dX5_init_49 : decode cX5_init 49 = .ok (.putfield 35, 3) := by decide +kernel
theorem dX5_init_52 : decode cX5_init 52 = .ok (.aload_n 0, 1) := by decide +kernel
theorem dX5_init_53 : decode cX5_init 53 = .ok (.new 39, 3) := by decide +kernel
theorem dX5_init_56 : decode cX5_init 56 = .ok (.dup, 1) := by decide +kernel
theorem dX5_init_57 : decode cX5_init 57 = .ok (.aload_n 0, 1) := by decide +kernel
theorem dX5_init_58 : decode cX5_init 58 = .ok (.getfield 28, 3) := by decide +kernel
theorem dX5_init_61 : decode cX5_init 61 = .ok (.invokespecial 41, 3) := by decide +kernel
theorem dX5_init_64 : decode cX5_init 64 = .ok (.putfield 44, 3) := by decide +kernel
theorem dX5_init_67 : decode cX5_init 67 = .ok (.aload_n 0, 1) := by decide +kernel
theorem dX5_init_68 : decode cX5_init 68 = .ok (.getfield 28, 3) := by decide +kernel
theorem dX5_init_71 : decode cX5_init 71 = .ok (.iconst 1, 1) := by decide +kernel
theorem dX5_init_72 : decode cX5_init 72 = .ok (.putfield 48, 3) := by decide +kernel
theorem dX5_init_75 : decode cX5_init 75 = .ok (.iconst 0, 1) := by decide +kernel
theorem dX5_init_76 : decode cX5_init 76 = .ok (.istore_n 1, 1) := by decide +kernel
theorem dX5_init_77 : decode cX5_init 77 = .ok (.iload_n 1, 1) := by decide +kernel
theorem dX5_init_78 : decode cX5_init 78 = .ok (.ldc 52, 2) := by decide +kernel
theorem dX5_init_80 : decode cX5_init 80 = .ok (.invokevirtual 54, 3) := by decide +kernel
theorem dX5_init_83 : decode cX5_init 83 = .ok (.if_icmp .ge 22, 3) := by decide +kernel
theorem dX5_init_86 : decode cX5_init 86 = .ok (.aload_n 0, 1) := by decide +kernel
theorem dX5_init_87 : decode cX5_init 87 = .ok (.getfield 12, 3) := by decide +kernel
theorem dX5_init_90 : decode cX5_init 90 = .ok (.ldc 52, 2) := by decide +kernel
theorem dX5_init_92 : decode cX5_init 92 = .ok (.iload_n 1, 1) := by decide +kernel
theorem dX5_init_93 : decode cX5_init 93 = .ok (.invokevirtual 60, 3) := by decide +kernel
theorem dX5_init_96 : decode cX5_init 96 = .ok (.invokevirtual 64, 3) := by decide +kernel
theorem dX5_init_99 : decode cX5_init 99 = .ok (.iinc 1 1, 3) := by decide +kernel
theorem dX5_init_102 : decode cX5_init 102 = .ok (.goto (-25), 3) := by decide +kernel
theorem dX5_init_105 : decode cX5_init 105 = .ok (.aload_n 0, 1) := by decide +kernel
theorem dX5_init_106 : decode cX5_init 106 = .ok (.invokevirtual 68, 3) := by decide +kernel
theorem dX5_init_109 : decode cX5_init 109 = .ok (.pop, 1) := by decide +kernel
theorem dX5_init_110 : decode cX5_init 110 = .ok (.aload_n 0, 1) := by decide +kernel
theorem dX5_init_111 : decode cX5_init 111 = .ok (.getfield 12, 3) := by decide +kernel
theorem dX5_init_114 : decode cX5_init 114 = .ok (.iconst 0, 1) := by decide +kernel
theorem dX5_init_115 : decode cX5_init 115 = .ok (.putfield 71, 3) := by decide +kernel
theorem dX5_init_118 : decode cX5_init 118 = .ok (.return_, 1) := by decide +kernel
set_option maxRecDepth 20000 in
theorem ggX5_append_X2_put : GoodIn wsX5_append wsX2_put := goodIn_r _ [5, 6, 7, 13, 14] (by decide +kernel) (by decide +kernel)
set_option maxRecDepth 20000 in
theorem gX5_append_X2_put_n64 : GoodIn wsX5_append (wsX2_put) := ggX5_append_X2_put
theorem dX5_append_0 : decode cX5_append 0 = .ok (.iload_n 1, 1) := by decide +kernel
theorem dX5_append_1 : decode cX5_append 1 = .ok (.bipush 32, 2) := by decide +kernel
theorem dX5_append_3 : decode cX5_append 3 = .ok (.if_icmp .lt 9, 3) := by decide +kernel
theorem dX5_append_6 : decode cX5_append 6 = .ok (.iload_n 1, 1) := by decide +kernel
theorem dX5_append_7 : decode cX5_append 7 = .ok (.bipush 126, 2) := by decide +kernel
theorem dX5_append_9 : decode cX5_append 9 = .ok (.if_icmp .le 6, 3) := by decide +kernel
theorem dX5_append_12 : decode cX5_append 12 = .ok (.bipush (-101), 2) := by decide +kernel
theorem dX5_append_14 : decode cX5_append 14 = .ok (.ireturn, 1) := by decide +kernel
theorem dX5_append_15 : decode cX5_append 15 = .ok (.aload_n 0, 1) := by decide +kernel
theorem dX5_append_16 : decode cX5_append 16 = .ok (.getfield 12, 3) := by decide +kernel
theorem dX5_append_19 : decode cX5_append 19 = .ok (.getfield 71, 3) := by decide +kernel
theorem dX5_append_22 : decode cX5_append 22 = .ok (.sipush 200, 3) := by decide +kernel
theorem dX5_append_25 : decode cX5_append 25 = .ok (.if_icmp .lt 6, 3) := by decide +kernel
theorem dX5_append_28 : decode cX5_append 28 = .ok (.bipush (-103), 2) := by decide +kernel
theorem dX5_append_30 : decode cX5_append 30 = .ok (.ireturn, 1) := by decide +kernel
theorem dX5_append_31 : decode cX5_append 31 = .ok (.aload_n 0, 1) := by decide +kernel
theorem dX5_append_32 : decode cX5_append 32 = .ok (.getfield 12, 3) := by decide +kernel
theorem dX5_append_35 : decode cX5_append 35 = .ok (.iload_n 1, 1) := by decide +kernel
theorem dX5_append_36 : decode cX5_append 36 = .ok (.i2c, 1) := by decide +kernel
theorem dX5_append_37 : decode cX5_append 37 = .ok (.invokevirtual 64, 3) := by decide +kernel
theorem dX5_append_40 : decode cX5_append 40 = .ok (.aload_n 0, 1) := by decide +kernel
theorem dX5_append_41 : decode cX5_append 41 = .ok (.getfield 12, 3) := by decide +kernel
theorem dX5_append_44 : decode cX5_append 44 = .ok (.getfield 71, 3) := by decide +kernel
theorem dX5_append_47 : decode cX5_append 47 = .ok (.ireturn, 1) := by decide +kernel
theorem dX5_clearText_0 : decode cX5_clearText 0 = .ok (.aload_n 0, 1) := by decide +kernel
theorem dX5_clearText_1 : decode cX5_clearText 1 = .ok (.getfield 12, 3) := by decide +kernel
theorem dX5_clearText_4 : decode cX5_clearText 4 = .ok (.getfield 71, 3) := by decide +kernel
theorem dX5_clearText_7 : decode cX5_clearText 7 = .ok (.istore_n 1, 1) := by decide +kernel
theorem dX5_clearText_8 : decode cX5_clearText 8 = .ok (.aload_n 0, 1) := by decide +kernel
theorem dX5_clearText_9 : decode cX5_clearText 9 = .ok (.getfield 12, 3) := by decide +kernel
theorem dX5_clearText_12 : decode cX5_clearText 12 = .ok (.iconst 0, 1) := by decide +kernel
theorem dX5_clearText_13 : decode cX5_clearText 13 = .ok (.putfield 71, 3) := by decide +kernel
theorem dX5_clearText_16 : decode cX5_clearText 16 = .ok (.iload_n 1, 1) := by decide +kernel
theorem dX5_clearText_17 : decode cX5_clearText 17 = .ok (.ireturn, 1) := by decide +kernel
set_option maxRecDepth 20000 in
theorem ggX5_firstError_X4_read : GoodIn wsX5_firstError wsX4_read := goodIn_r _ [5, 6, 7, 8, 9, 10, 11, 12, 13, 3, 14, 15, 16, 17, 18, 19, 20, 21, 22, 23, 24, 25, 26, 27, 28, 29, 30, 31, 32, 33, 34, 35, 36, 37, 38, 39, 40, 41, 42, 43, 44, 45, 46, 47, 48, 49, 50, 51, 52, 53, 54, 55, 56, 57, 58, 59, 60, 61, 62, 63, 64, 65, 66, 67, 68, 69, 70, 71, 72, 73, 74, 75, 76, 77, 78, 79, 80, 81, 82, 83, 84, 85, 86, 87, 88, 89, 90, 96, 97, 98, 99, 100, 101, 102, 103, 104, 105, 106, 107, 108, 109, 110, 111, 112, 113, 114] (by decide +kernel) (by decide +kernel)
set_option maxRecDepth 20000 in
theorem gX5_firstError_X4_read_n73 : GoodIn wsX5_firstError (wsX4_read) := ggX5_firstError_X4_read
theorem dX5_firstError_0 : decode cX5_firstError 0 = .ok (.aload_n 0, 1) := by decide +kernel
theorem dX5_firstError_1 : decode cX5_firstError 1 = .ok (.getfield 21, 3) := by decide +kernel
theorem dX5_firstError_4 : decode cX5_firstError 4 = .ok (.invokevirtual 73, 3) := by decide +kernel
theorem dX5_firstError_7 : decode cX5_firstError 7 = .ok (.aload_n 0, 1) := by decide +kernel
theorem dX5_firstError_8 : decode cX5_firstError 8 = .ok (.getfield 21, 3) := by decide +kernel
theorem dX5_firstError_11 : decode cX5_firstError 11 = .ok (.getfield 76, 3) := by decide +kernel
theorem dX5_firstError_14 : decode cX5_firstError 14 = .ok (.ireturn, 1) := by decide +kernel
set_option maxRecDepth 20000 in
theorem ggX5_errorReason_X4_read : GoodIn wsX5_errorReason wsX4_read := goodIn_r _ [5, 6, 7, 8, 9, 10, 11, 12, 13, 3, 14, 15, 16, 17, 18, 19, 20, 21, 22, 23, 24, 25, 26, 27, 28, 29, 30, 31, 32, 33, 34, 35, 36, 37, 38, 39, 40, 41, 42, 43, 44, 45, 46, 47, 48, 49, 50, 51, 52, 53, 54, 55, 56, 57, 58, 59, 60, 61, 62, 63, 64, 65, 66, 67, 68, 69, 70, 71, 72, 73, 74, 75, 76, 77, 78, 79, 80, 81, 82, 83, 84, 85, 86, 87, 88, 89, 90, 96, 97, 98, 99, 100, 101, 102, 103, 104, 105, 106, 107, 108, 109, 110, 111, 112, 113, 114] (by decide +kernel) (by decide +kernel)
set_option maxRecDepth 20000 in
theorem gX5_errorReason_X4_read_n73 : GoodIn wsX5_errorReason (wsX4_read) := ggX5_errorReason_X4_read
theorem dX5_errorReason_0 : decode cX5_errorReason 0 = .ok (.aload_n 0, 1) := by decide +kernel
theorem dX5_errorReason_1 : decode cX5_errorReason 1 = .ok (.getfield 21, 3) := by decide +kernel
theorem dX5_errorReason_4 : decode cX5_errorReason 4 = .ok (.invokevirtual 73, 3) := by decide +kernel
theorem dX5_errorReason_7 : decode cX5_errorReason 7 = .ok (.aload_n 0, 1) := by decide +kernel
theorem dX5_errorReason_8 : decode cX5_errorReason 8 = .ok (.getfield 21, 3) := by decide +kernel
theorem dX5_errorReason_11 : decode cX5_errorReason 11 = .ok (.getfield 79, 3) := by decide +kernel
theorem dX5_errorReason_14 : decode cX5_errorReason 14 = .ok (.ireturn, 1) := by decide +kernel
set_option maxRecDepth 20000 in
theorem ggX5_configure_X5_takeText : GoodIn wsX5_configure wsX5_takeText := goodIn_r _ [5, 6, 7, 8, 9, 10, 11, 12, 13, 14, 15, 16, 17, 18, 19, 20, 21, 22, 23, 24, 25, 26, 27, 28, 29, 30, 31, 32, 33, 34, 35, 36, 37, 38, 39, 40, 41, 42, 43, 44, 45, 46, 47, 48, 49, 50, 51, 52, 53, 54, 55, 56, 57, 58, 59, 60, 61, 62, 4, 63, 64, 65, 66, 67, 68, 69, 70, 71, 72, 73, 74, 75, 76, 77, 78, 79, 80, 81, 82, 83, 84, 85, 86, 87, 88, 89, 90, 91, 92, 93, 94, 95, 96, 97, 98, 99, 100, 101, 102, 103, 104, 105, 106, 107, 108, 109, 110, 111, 112, 113, 114, 115, 116, 117, 118, 119, 120, 121, 122, 123, 124, 125, 126, 127, 128, 129, 130, 131, 132, 133] (by decide +kernel) (by decide +kernel)
set_option maxRecDepth 20000 in
theorem gX5_configure_X5_takeText : GoodIn wsX5_configure (wsV RX5 68 RX5 yX5_takeText wsX5_takeText) := goodIn_app (goodIn_of _ (by decide +kernel)) ggX5_configure_X5_takeText
theorem dX5_configure_0 : decode cX5_configure 0 = .ok (.aload_n 0, 1) := by decide +kernel
theorem dX5_configure_1 : decode cX5_configure 1 = .ok (.invokevirtual 68, 3) := by decide +kernel
theorem dX5_configure_4 : decode cX5_configure 4 = .ok (.ireturn, 1) := by decide +kernel
set_option maxRecDepth 20000 in
theorem ggX5_addGate_X1_hasNode : GoodIn wsX5_addGate wsX1_hasNode := goodIn_r _ [6, 7, 54, 55, 56, 57, 58, 59, 60, 61, 62, 63] (by decide +kernel) (by decide +kernel)
set_option maxRecDepth 20000 in
theorem gX5_addGate_X1_hasNode_n82 : GoodIn wsX5_addGate (wsX1_hasNode) := ggX5_addGate_X1_hasNode
set_option maxRecDepth 20000 in
theorem ggX5_addGate_X1_hasRoomFor : GoodIn wsX5_addGate wsX1_hasRoomFor := goodIn_r _ [10, 11, 12, 13, 4, 14, 7, 15, 54, 55, 56, 57, 58, 59, 60, 61, 62, 63] (by decide +kernel) (by decide +kernel)
set_option maxRecDepth 20000 in
theorem gX5_addGate_X1_hasRoomFor_n86 : GoodIn wsX5_addGate (wsX1_hasRoomFor) := ggX5_addGate_X1_hasRoomFor
set_option maxRecDepth 20000 in
theorem ggX5_addGate_X3_save : GoodIn wsX5_addGate wsX3_save := goodIn_r _ [19, 20, 21, 22, 23, 24, 25, 26, 27, 28, 17, 29, 30, 31, 4, 32, 33, 34, 35, 36, 37, 38, 39, 40, 41, 15, 7, 42, 43, 44, 45, 64, 65, 66, 54, 55, 56, 57, 58, 59, 60, 61, 62, 63] (by decide +kernel) (by decide +kernel)
set_option maxRecDepth 20000 in
theorem gX5_addGate_X3_save_n89 : GoodIn wsX5_addGate (wsX3_save) := ggX5_addGate_X3_save
set_option maxRecDepth 20000 in
theorem ggX5_addGate_X1_putGate : GoodIn wsX5_addGate wsX1_putGate := goodIn_r _ [48, 7, 34, 39, 40, 54, 55, 56, 57, 58, 59, 60, 61, 62, 63] (by decide +kernel) (by decide +kernel)
set_option maxRecDepth 20000 in
theorem gX5_addGate_X1_putGate_n92 : GoodIn wsX5_addGate (wsX1_putGate) := ggX5_addGate_X1_putGate
theorem dX5_addGate_0 : decode cX5_addGate 0 = .ok (.iload_n 1, 1) := by decide +kernel
theorem dX5_addGate_1 : decode cX5_addGate 1 = .ok (.ifCond .lt 19, 3) := by decide +kernel
theorem dX5_addGate_4 : decode cX5_addGate 4 = .ok (.iload_n 1, 1) := by decide +kernel
theorem dX5_addGate_5 : decode cX5_addGate 5 = .ok (.iconst 5, 1) := by decide +kernel
theorem dX5_addGate_6 : decode cX5_addGate 6 = .ok (.if_icmp .gt 14, 3) := by decide +kernel
theorem dX5_addGate_9 : decode cX5_addGate 9 = .ok (.aload_n 0, 1) := by decide +kernel
theorem dX5_addGate_10 : decode cX5_addGate 10 = .ok (.getfield 28, 3) := by decide +kernel
theorem dX5_addGate_13 : decode cX5_addGate 13 = .ok (.iload_n 2, 1) := by decide +kernel
theorem dX5_addGate_14 : decode cX5_addGate 14 = .ok (.invokevirtual 82, 3) := by decide +kernel
theorem dX5_addGate_17 : decode cX5_addGate 17 = .ok (.ifCond .ne 6, 3) := by decide +kernel
theorem dX5_addGate_20 : decode cX5_addGate 20 = .ok (.bipush (-101), 2) := by decide +kernel
theorem dX5_addGate_22 : decode cX5_addGate 22 = .ok (.ireturn, 1) := by decide +kernel
theorem dX5_addGate_23 : decode cX5_addGate 23 = .ok (.iload_n 1, 1) := by decide +kernel
theorem dX5_addGate_24 : decode cX5_addGate 24 = .ok (.iconst 5, 1) := by decide +kernel
theorem dX5_addGate_25 : decode cX5_addGate 25 = .ok (.if_icmp .eq 17, 3) := by decide +kernel
theorem dX5_addGate_28 : decode cX5_addGate 28 = .ok (.aload_n 0, 1) := by decide +kernel
theorem dX5_addGate_29 : decode cX5_addGate 29 = .ok (.getfield 28, 3) := by decide +kernel
theorem dX5_addGate_32 : decode cX5_addGate 32 = .ok (.iload_n 3, 1) := by decide +kernel
theorem dX5_addGate_33 : decode cX5_addGate 33 = .ok (.invokevirtual 82, 3) := by decide +kernel
theorem dX5_addGate_36 : decode cX5_addGate 36 = .ok (.ifCond .ne 6, 3) := by decide +kernel
theorem dX5_addGate_39 : decode cX5_addGate 39 = .ok (.bipush (-101), 2) := by decide +kernel
theorem dX5_addGate_41 : decode cX5_addGate 41 = .ok (.ireturn, 1) := by decide +kernel
theorem dX5_addGate_42 : decode cX5_addGate 42 = .ok (.aload_n 0, 1) := by decide +kernel
theorem dX5_addGate_43 : decode cX5_addGate 43 = .ok (.getfield 28, 3) := by decide +kernel
theorem dX5_addGate_46 : decode cX5_addGate 46 = .ok (.iconst 1, 1) := by decide +kernel
theorem dX5_addGate_47 : decode cX5_addGate 47 = .ok (.invokevirtual 86, 3) := by decide +kernel
theorem dX5_addGate_50 : decode cX5_addGate 50 = .ok (.ifCond .ne 6, 3) := by decide +kernel
theorem dX5_addGate_53 : decode cX5_addGate 53 = .ok (.bipush (-103), 2) := by decide +kernel
theorem dX5_addGate_55 : decode cX5_addGate 55 = .ok (.ireturn, 1) := by decide +kernel
theorem dX5_addGate_56 : decode cX5_addGate 56 = .ok (.aload_n 0, 1) := by decide +kernel
theorem dX5_addGate_57 : decode cX5_addGate 57 = .ok (.getfield 35, 3) := by decide +kernel
theorem dX5_addGate_60 : decode cX5_addGate 60 = .ok (.aload_n 0, 1) := by decide +kernel
theorem dX5_addGate_61 : decode cX5_addGate 61 = .ok (.getfield 28, 3) := by decide +kernel
theorem dX5_addGate_64 : decode cX5_addGate 64 = .ok (.invokevirtual 89, 3) := by decide +kernel
theorem dX5_addGate_67 : decode cX5_addGate 67 = .ok (.aload_n 0, 1) := by decide +kernel
theorem dX5_addGate_68 : decode cX5_addGate 68 = .ok (.getfield 28, 3) := by decide +kernel
theorem dX5_addGate_71 : decode cX5_addGate 71 = .ok (.iload_n 1, 1) := by decide +kernel
theorem dX5_addGate_72 : decode cX5_addGate 72 = .ok (.iload_n 2, 1) := by decide +kernel
theorem dX5_addGate_73 : decode cX5_addGate 73 = .ok (.iload_n 3, 1) := by decide +kernel
theorem dX5_addGate_74 : decode cX5_addGate 74 = .ok (.invokevirtual 92, 3) := by decide +kernel
theorem dX5_addGate_77 : decode cX5_addGate 77 = .ok (.ireturn, 1) := by decide +kernel
set_option maxRecDepth 20000 in
theorem ggX5_addTwoRailCell_X1_hasNode : GoodIn wsX5_addTwoRailCell wsX1_hasNode := goodIn_r _ [6, 7, 54, 55, 56, 57, 58, 59, 60, 61, 62, 63] (by decide +kernel) (by decide +kernel)
set_option maxRecDepth 20000 in
theorem gX5_addTwoRailCell_X1_hasNode_n82 : GoodIn wsX5_addTwoRailCell (wsX1_hasNode) := ggX5_addTwoRailCell_X1_hasNode
set_option maxRecDepth 20000 in
theorem ggX5_addTwoRailCell_X1_hasRoomFor : GoodIn wsX5_addTwoRailCell wsX1_hasRoomFor := goodIn_r _ [10, 11, 12, 13, 4, 14, 7, 15, 54, 55, 56, 57, 58, 59, 60, 61, 62, 63] (by decide +kernel) (by decide +kernel)
set_option maxRecDepth 20000 in
theorem gX5_addTwoRailCell_X1_hasRoomFor_n86 : GoodIn wsX5_addTwoRailCell (wsX1_hasRoomFor) := ggX5_addTwoRailCell_X1_hasRoomFor
set_option maxRecDepth 20000 in
theorem ggX5_addTwoRailCell_X3_save : GoodIn wsX5_addTwoRailCell wsX3_save := goodIn_r _ [19, 20, 21, 22, 23, 24, 25, 26, 27, 28, 17, 29, 30, 31, 4, 32, 33, 34, 35, 36, 37, 38, 39, 40, 41, 15, 7, 42, 43, 44, 45, 64, 65, 66, 54, 55, 56, 57, 58, 59, 60, 61, 62, 63] (by decide +kernel) (by decide +kernel)
set_option maxRecDepth 20000 in
theorem gX5_addTwoRailCell_X3_save_n89 : GoodIn wsX5_addTwoRailCell (wsX3_save) := ggX5_addTwoRailCell_X3_save
set_option maxRecDepth 20000 in
theorem ggX5_addTwoRailCell_X1_putGate : GoodIn wsX5_addTwoRailCell wsX1_putGate := goodIn_r _ [48, 7, 34, 39, 40, 54, 55, 56, 57, 58, 59, 60, 61, 62, 63] (by decide +kernel) (by decide +kernel)
set_option maxRecDepth 20000 in
theorem gX5_addTwoRailCell_X1_putGate_n92 : GoodIn wsX5_addTwoRailCell (wsX1_putGate) := ggX5_addTwoRailCell_X1_putGate
theorem dX5_addTwoRailCell_0 : decode cX5_addTwoRailCell 0 = .ok (.aload_n 0, 1) := by decide +kernel
theorem dX5_addTwoRailCell_1 : decode cX5_addTwoRailCell 1 = .ok (.getfield 28, 3) := by decide +kernel
theorem dX5_addTwoRailCell_4 : decode cX5_addTwoRailCell 4 = .ok (.iload_n 1, 1) := by decide +kernel
theorem dX5_addTwoRailCell_5 : decode cX5_addTwoRailCell 5 = .ok (.invokevirtual 82, 3) := by decide +kernel
theorem dX5_addTwoRailCell_8 : decode cX5_addTwoRailCell 8 = .ok (.ifCond .eq 37, 3) := by decide +kernel
theorem dX5_addTwoRailCell_11 : decode cX5_addTwoRailCell 11 = .ok (.aload_n 0, 1) := by decide +kernel
theorem dX5_addTwoRailCell_12 : decode cX5_addTwoRailCell 12 = .ok (.getfield 28, 3) := by decide +kernel
theorem dX5_addTwoRailCell_15 : decode cX5_addTwoRailCell 15 = .ok (.iload_n 2, 1) := by decide +kernel
theorem dX5_addTwoRailCell_16 : decode cX5_addTwoRailCell 16 = .ok (.invokevirtual 82, 3) := by decide +kernel
theorem dX5_addTwoRailCell_19 : decode cX5_addTwoRailCell 19 = .ok (.ifCond .eq 26, 3) := by decide +kernel
theorem dX5_addTwoRailCell_22 : decode cX5_addTwoRailCell 22 = .ok (.aload_n 0, 1) := by decide +kernel
theorem dX5_addTwoRailCell_23 : decode cX5_addTwoRailCell 23 = .ok (.getfield 28, 3) := by decide +kernel
theorem dX5_addTwoRailCell_26 : decode cX5_addTwoRailCell 26 = .ok (.iload_n 3, 1) := by decide +kernel
theorem dX5_addTwoRailCell_27 : decode cX5_addTwoRailCell 27 = .ok (.invokevirtual 82, 3) := by decide +kernel
theorem dX5_addTwoRailCell_30 : decode cX5_addTwoRailCell 30 = .ok (.ifCond .eq 15, 3) := by decide +kernel
theorem dX5_addTwoRailCell_33 : decode cX5_addTwoRailCell 33 = .ok (.aload_n 0, 1) := by decide +kernel
theorem dX5_addTwoRailCell_34 : decode cX5_addTwoRailCell 34 = .ok (.getfield 28, 3) := by decide +kernel
theorem dX5_addTwoRailCell_37 : decode cX5_addTwoRailCell 37 = .ok (.iload 4, 2) := by decide +kernel
theorem dX5_addTwoRailCell_39 : decode cX5_addTwoRailCell 39 = .ok (.invokevirtual 82, 3) := by decide +kernel
theorem dX5_addTwoRailCell_42 : decode cX5_addTwoRailCell 42 = .ok (.ifCond .ne 6, 3) := by decide +kernel
theorem dX5_addTwoRailCell_45 : decode cX5_addTwoRailCell 45 = .ok (.bipush (-101), 2) := by decide +kernel
theorem dX5_addTwoRailCell_47 : decode cX5_addTwoRailCell 47 = .ok (.ireturn, 1) := by decide +kernel
theorem dX5_addTwoRailCell_48 : decode cX5_addTwoRailCell 48 = .ok (.aload_n 0, 1) := by decide +kernel
theorem dX5_addTwoRailCell_49 : decode cX5_addTwoRailCell 49 = .ok (.getfield 28, 3) := by decide +kernel
theorem dX5_addTwoRailCell_52 : decode cX5_addTwoRailCell 52 = .ok (.bipush 6, 2) := by decide +kernel
theorem dX5_addTwoRailCell_54 : decode cX5_addTwoRailCell 54 = .ok (.invokevirtual 86, 3) := by decide +kernel
theorem dX5_addTwoRailCell_57 : decode cX5_addTwoRailCell 57 = .ok (.ifCond .ne 6, 3) := by decide +kernel
theorem dX5_addTwoRailCell_60 : decode cX5_addTwoRailCell 60 = .ok (.bipush (-103), 2) := by decide +kernel
theorem dX5_addTwoRailCell_62 : decode cX5_addTwoRailCell 62 = .ok (.ireturn, 1) := by decide +kernel
theorem dX5_addTwoRailCell_63 : decode cX5_addTwoRailCell 63 = .ok (.aload_n 0, 1) := by decide +kernel
theorem dX5_addTwoRailCell_64 : decode cX5_addTwoRailCell 64 = .ok (.getfield 35, 3) := by decide +kernel
theorem dX5_addTwoRailCell_67 : decode cX5_addTwoRailCell 67 = .ok (.aload_n 0, 1) := by decide +kernel
theorem dX5_addTwoRailCell_68 : decode cX5_addTwoRailCell 68 = .ok (.getfield 28, 3) := by decide +kernel
theorem dX5_addTwoRailCell_71 : decode cX5_addTwoRailCell 71 = .ok (.invokevirtual 89, 3) := by decide +kernel
theorem dX5_addTwoRailCell_74 : decode cX5_addTwoRailCell 74 = .ok (.aload_n 0, 1) := by decide +kernel
theorem dX5_addTwoRailCell_75 : decode cX5_addTwoRailCell 75 = .ok (.getfield 28, 3) := by decide +kernel
theorem dX5_addTwoRailCell_78 : decode cX5_addTwoRailCell 78 = .ok (.iconst 0, 1) := by decide +kernel
theorem dX5_addTwoRailCell_79 : decode cX5_addTwoRailCell 79 = .ok (.iload_n 1, 1) := by decide +kernel
theorem dX5_addTwoRailCell_80 : decode cX5_addTwoRailCell 80 = .ok (.iload_n 3, 1) := by decide +kernel
theorem dX5_addTwoRailCell_81 : decode cX5_addTwoRailCell 81 = .ok (.invokevirtual 92, 3) := by decide +kernel
theorem dX5_addTwoRailCell_84 : decode cX5_addTwoRailCell 84 = .ok (.istore 5, 2) := by decide +kernel
theorem dX5_addTwoRailCell_86 : decode cX5_addTwoRailCell 86 = .ok (.aload_n 0, 1) := by decide +kernel
theorem dX5_addTwoRailCell_87 : decode cX5_addTwoRailCell 87 = .ok (.getfield 28, 3) := by decide +kernel
theorem dX5_addTwoRailCell_90 : decode cX5_addTwoRailCell 90 = .ok (.iconst 0, 1) := by decide +kernel
theorem dX5_addTwoRailCell_91 : decode cX5_addTwoRailCell 91 = .ok (.iload_n 2, 1) := by decide +kernel
theorem dX5_addTwoRailCell_92 : decode cX5_addTwoRailCell 92 = .ok (.iload 4, 2) := by decide +kernel
theorem dX5_addTwoRailCell_94 : decode cX5_addTwoRailCell 94 = .ok (.invokevirtual 92, 3) := by decide +kernel
theorem dX5_addTwoRailCell_97 : decode cX5_addTwoRailCell 97 = .ok (.istore 6, 2) := by decide +kernel
theorem dX5_addTwoRailCell_99 : decode cX5_addTwoRailCell 99 = .ok (.aload_n 0, 1) := by decide +kernel
theorem dX5_addTwoRailCell_100 : decode cX5_addTwoRailCell 100 = .ok (.getfield 28, 3) := by decide +kernel
theorem dX5_addTwoRailCell_103 : decode cX5_addTwoRailCell 103 = .ok (.iconst 1, 1) := by decide +kernel
theorem dX5_addTwoRailCell_104 : decode cX5_addTwoRailCell 104 = .ok (.iload 5, 2) := by decide +kernel
theorem dX5_addTwoRailCell_106 : decode cX5_addTwoRailCell 106 = .ok (.iload 6, 2) := by decide +kernel
theorem dX5_addTwoRailCell_108 : decode cX5_addTwoRailCell 108 = .ok (.invokevirtual 92, 3) := by decide +kernel
theorem dX5_addTwoRailCell_111 : decode cX5_addTwoRailCell 111 = .ok (.pop, 1) := by decide +kernel
theorem dX5_addTwoRailCell_112 : decode cX5_addTwoRailCell 112 = .ok (.aload_n 0, 1) := by decide +kernel
theorem dX5_addTwoRailCell_113 : decode cX5_addTwoRailCell 113 = .ok (.getfield 28, 3) := by decide +kernel
theorem dX5_addTwoRailCell_116 : decode cX5_addTwoRailCell 116 = .ok (.iconst 0, 1) := by decide +kernel
theorem dX5_addTwoRailCell_117 : decode cX5_addTwoRailCell 117 = .ok (.iload_n 1, 1) := by decide +kernel
theorem dX5_addTwoRailCell_118 : decode cX5_addTwoRailCell 118 = .ok (.iload 4, 2) := by decide +kernel
theorem dX5_addTwoRailCell_120 : decode cX5_addTwoRailCell 120 = .ok (.invokevirtual 92, 3) := by decide +kernel
theorem dX5_addTwoRailCell_123 : decode cX5_addTwoRailCell 123 = .ok (.istore 7, 2) := by decide +kernel
theorem dX5_addTwoRailCell_125 : decode cX5_addTwoRailCell 125 = .ok (.aload_n 0, 1) := by decide +kernel
theorem dX5_addTwoRailCell_126 : decode cX5_addTwoRailCell 126 = .ok (.getfield 28, 3) := by decide +kernel
theorem dX5_addTwoRailCell_129 : decode cX5_addTwoRailCell 129 = .ok (.iconst 0, 1) := by decide +kernel
theorem dX5_addTwoRailCell_130 : decode cX5_addTwoRailCell 130 = .ok (.iload_n 2, 1) := by decide +kernel
theorem dX5_addTwoRailCell_131 : decode cX5_addTwoRailCell 131 = .ok (.iload_n 3, 1) := by decide +kernel
theorem dX5_addTwoRailCell_132 : decode cX5_addTwoRailCell 132 = .ok (.invokevirtual 92, 3) := by decide +kernel
theorem dX5_addTwoRailCell_135 : decode cX5_addTwoRailCell 135 = .ok (.istore 8, 2) := by decide +kernel
theorem dX5_addTwoRailCell_137 : decode cX5_addTwoRailCell 137 = .ok (.aload_n 0, 1) := by decide +kernel
theorem dX5_addTwoRailCell_138 : decode cX5_addTwoRailCell 138 = .ok (.getfield 28, 3) := by decide +kernel
theorem dX5_addTwoRailCell_141 : decode cX5_addTwoRailCell 141 = .ok (.iconst 1, 1) := by decide +kernel
theorem dX5_addTwoRailCell_142 : decode cX5_addTwoRailCell 142 = .ok (.iload 7, 2) := by decide +kernel
theorem dX5_addTwoRailCell_144 : decode cX5_addTwoRailCell 144 = .ok (.iload 8, 2) := by decide +kernel
theorem dX5_addTwoRailCell_146 : decode cX5_addTwoRailCell 146 = .ok (.invokevirtual 92, 3) := by decide +kernel
theorem dX5_addTwoRailCell_149 : decode cX5_addTwoRailCell 149 = .ok (.ireturn, 1) := by decide +kernel
set_option maxRecDepth 20000 in
theorem ggX5_addComparator_X1_hasNode : GoodIn wsX5_addComparator wsX1_hasNode := goodIn_r _ [6, 7, 54, 55, 56, 57, 58, 59, 60, 61, 62, 63] (by decide +kernel) (by decide +kernel)
set_option maxRecDepth 20000 in
theorem gX5_addComparator_X1_hasNode_n82 : GoodIn wsX5_addComparator (wsX1_hasNode) := ggX5_addComparator_X1_hasNode
set_option maxRecDepth 20000 in
theorem ggX5_addComparator_X1_hasRoomFor : GoodIn wsX5_addComparator wsX1_hasRoomFor := goodIn_r _ [10, 11, 12, 13, 4, 14, 7, 15, 54, 55, 56, 57, 58, 59, 60, 61, 62, 63] (by decide +kernel) (by decide +kernel)
set_option maxRecDepth 20000 in
theorem gX5_addComparator_X1_hasRoomFor_n86 : GoodIn wsX5_addComparator (wsX1_hasRoomFor) := ggX5_addComparator_X1_hasRoomFor
set_option maxRecDepth 20000 in
theorem ggX5_addComparator_X3_save : GoodIn wsX5_addComparator wsX3_save := goodIn_r _ [19, 20, 21, 22, 23, 24, 25, 26, 27, 28, 17, 29, 30, 31, 4, 32, 33, 34, 35, 36, 37, 38, 39, 40, 41, 15, 7, 42, 43, 44, 45, 64, 65, 66, 54, 55, 56, 57, 58, 59, 60, 61, 62, 63] (by decide +kernel) (by decide +kernel)
set_option maxRecDepth 20000 in
theorem gX5_addComparator_X3_save_n89 : GoodIn wsX5_addComparator (wsX3_save) := ggX5_addComparator_X3_save
set_option maxRecDepth 20000 in
theorem ggX5_addComparator_X1_putGate : GoodIn wsX5_addComparator wsX1_putGate := goodIn_r _ [48, 7, 34, 39, 40, 54, 55, 56, 57, 58, 59, 60, 61, 62, 63] (by decide +kernel) (by decide +kernel)
set_option maxRecDepth 20000 in
theorem gX5_addComparator_X1_putGate_n92 : GoodIn wsX5_addComparator (wsX1_putGate) := ggX5_addComparator_X1_putGate
theorem dX5_addComparator_0 : decode cX5_addComparator 0 = .ok (.aload_n 0, 1) := by decide +kernel
theorem dX5_addComparator_1 : decode cX5_addComparator 1 = .ok (.getfield 28, 3) := by decide +kernel
theorem dX5_addComparator_4 : decode cX5_addComparator 4 = .ok (.iload_n 1, 1) := by decide +kernel
theorem dX5_addComparator_5 : decode cX5_addComparator 5 = .ok (.invokevirtual 82, 3) := by decide +kernel
theorem dX5_addComparator_8 : decode cX5_addComparator 8 = .ok (.ifCond .eq 14, 3) := by decide +kernel
theorem dX5_addComparator_11 : decode cX5_addComparator 11 = .ok (.aload_n 0, 1) := by decide +kernel
theorem dX5_addComparator_12 : decode cX5_addComparator 12 = .ok (.getfield 28, 3) := by decide +kernel
theorem dX5_addComparator_15 : decode cX5_addComparator 15 = .ok (.iload_n 2, 1) := by decide +kernel
theorem dX5_addComparator_16 : decode cX5_addComparator 16 = .ok (.invokevirtual 82, 3) := by decide +kernel
theorem dX5_addComparator_19 : decode cX5_addComparator 19 = .ok (.ifCond .ne 6, 3) := by decide +kernel
theorem dX5_addComparator_22 : decode cX5_addComparator 22 = .ok (.bipush (-101), 2) := by decide +kernel
theorem dX5_addComparator_24 : decode cX5_addComparator 24 = .ok (.ireturn, 1) := by decide +kernel
theorem dX5_addComparator_25 : decode cX5_addComparator 25 = .ok (.aload_n 0, 1) := by decide +kernel
theorem dX5_addComparator_26 : decode cX5_addComparator 26 = .ok (.getfield 28, 3) := by decide +kernel
theorem dX5_addComparator_29 : decode cX5_addComparator 29 = .ok (.iconst 2, 1) := by decide +kernel
theorem dX5_addComparator_30 : decode cX5_addComparator 30 = .ok (.invokevirtual 86, 3) := by decide +kernel
theorem dX5_addComparator_33 : decode cX5_addComparator 33 = .ok (.ifCond .ne 6, 3) := by decide +kernel
theorem dX5_addComparator_36 : decode cX5_addComparator 36 = .ok (.bipush (-103), 2) := by decide +kernel
theorem dX5_addComparator_38 : decode cX5_addComparator 38 = .ok (.ireturn, 1) := by decide +kernel
theorem dX5_addComparator_39 : decode cX5_addComparator 39 = .ok (.aload_n 0, 1) := by decide +kernel
theorem dX5_addComparator_40 : decode cX5_addComparator 40 = .ok (.getfield 35, 3) := by decide +kernel
theorem dX5_addComparator_43 : decode cX5_addComparator 43 = .ok (.aload_n 0, 1) := by decide +kernel
theorem dX5_addComparator_44 : decode cX5_addComparator 44 = .ok (.getfield 28, 3) := by decide +kernel
theorem dX5_addComparator_47 : decode cX5_addComparator 47 = .ok (.invokevirtual 89, 3) := by decide +kernel
theorem dX5_addComparator_50 : decode cX5_addComparator 50 = .ok (.aload_n 0, 1) := by decide +kernel
theorem dX5_addComparator_51 : decode cX5_addComparator 51 = .ok (.getfield 28, 3) := by decide +kernel
theorem dX5_addComparator_54 : decode cX5_addComparator 54 = .ok (.iconst 1, 1) := by decide +kernel
theorem dX5_addComparator_55 : decode cX5_addComparator 55 = .ok (.iload_n 1, 1) := by decide +kernel
theorem dX5_addComparator_56 : decode cX5_addComparator 56 = .ok (.iload_n 2, 1) := by decide +kernel
theorem dX5_addComparator_57 : decode cX5_addComparator 57 = .ok (.invokevirtual 92, 3) := by decide +kernel
theorem dX5_addComparator_60 : decode cX5_addComparator 60 = .ok (.pop, 1) := by decide +kernel
theorem dX5_addComparator_61 : decode cX5_addComparator 61 = .ok (.aload_n 0, 1) := by decide +kernel
theorem dX5_addComparator_62 : decode cX5_addComparator 62 = .ok (.getfield 28, 3) := by decide +kernel
theorem dX5_addComparator_65 : decode cX5_addComparator 65 = .ok (.iconst 0, 1) := by decide +kernel
theorem dX5_addComparator_66 : decode cX5_addComparator 66 = .ok (.iload_n 1, 1) := by decide +kernel
theorem dX5_addComparator_67 : decode cX5_addComparator 67 = .ok (.iload_n 2, 1) := by decide +kernel
theorem dX5_addComparator_68 : decode cX5_addComparator 68 = .ok (.invokevirtual 92, 3) := by decide +kernel
theorem dX5_addComparator_71 : decode cX5_addComparator 71 = .ok (.ireturn, 1) := by decide +kernel
set_option maxRecDepth 20000 in
theorem ggX5_removeGate_X1_gates : GoodIn wsX5_removeGate wsX1_gates := goodIn_r _ [6, 7, 8, 54, 55, 56, 57, 58, 59, 60, 61, 62, 63] (by decide +kernel) (by decide +kernel)
set_option maxRecDepth 20000 in
theorem gX5_removeGate_X1_gates_n96 : GoodIn wsX5_removeGate (wsX1_gates) := ggX5_removeGate_X1_gates
set_option maxRecDepth 20000 in
theorem ggX5_removeGate_X1_isOutput : GoodIn wsX5_removeGate wsX1_isOutput := goodIn_r _ [11, 12, 13, 14, 15, 4, 16, 17, 54, 55, 56, 57, 58, 59, 60, 61, 62, 63] (by decide +kernel) (by decide +kernel)
set_option maxRecDepth 20000 in
theorem gX5_removeGate_X1_isOutput_n102 : GoodIn wsX5_removeGate (wsX1_isOutput) := ggX5_removeGate_X1_isOutput
set_option maxRecDepth 20000 in
theorem ggX5_removeGate_X3_save : GoodIn wsX5_removeGate wsX3_save := goodIn_r _ [21, 22, 23, 24, 25, 26, 27, 28, 29, 30, 19, 31, 32, 33, 4, 34, 35, 36, 37, 38, 39, 40, 41, 42, 17, 8, 7, 12, 43, 44, 45, 64, 65, 66, 54, 55, 56, 57, 58, 59, 60, 61, 62, 63] (by decide +kernel) (by decide +kernel)
set_option maxRecDepth 20000 in
theorem gX5_removeGate_X3_save_n89 : GoodIn wsX5_removeGate (wsX3_save) := ggX5_removeGate_X3_save
set_option maxRecDepth 20000 in
theorem ggX5_removeGate_X1_type : GoodIn wsX5_removeGate wsX1_type := goodIn_r _ [48, 36, 54, 55, 56, 57, 58, 59, 60, 61, 62, 63] (by decide +kernel) (by decide +kernel)
set_option maxRecDepth 20000 in
theorem gX5_removeGate_X1_type_n105 : GoodIn wsX5_removeGate (wsX1_type) := ggX5_removeGate_X1_type
theorem dX5_removeGate_0 : decode cX5_removeGate 0 = .ok (.aload_n 0, 1) := by decide +kernel
theorem dX5_removeGate_1 : decode cX5_removeGate 1 = .ok (.getfield 28, 3) := by decide +kernel
theorem dX5_removeGate_4 : decode cX5_removeGate 4 = .ok (.invokevirtual 96, 3) := by decide +kernel
theorem dX5_removeGate_7 : decode cX5_removeGate 7 = .ok (.ifCond .ne 6, 3) := by decide +kernel
theorem dX5_removeGate_10 : decode cX5_removeGate 10 = .ok (.bipush (-104), 2) := by decide +kernel
theorem dX5_removeGate_12 : decode cX5_removeGate 12 = .ok (.ireturn, 1) := by decide +kernel
theorem dX5_removeGate_13 : decode cX5_removeGate 13 = .ok (.aload_n 0, 1) := by decide +kernel
theorem dX5_removeGate_14 : decode cX5_removeGate 14 = .ok (.getfield 28, 3) := by decide +kernel
theorem dX5_removeGate_17 : decode cX5_removeGate 17 = .ok (.getfield 99, 3) := by decide +kernel
theorem dX5_removeGate_20 : decode cX5_removeGate 20 = .ok (.iconst 1, 1) := by decide +kernel
theorem dX5_removeGate_21 : decode cX5_removeGate 21 = .ok (.isub, 1) := by decide +kernel
theorem dX5_removeGate_22 : decode cX5_removeGate 22 = .ok (.istore_n 1, 1) := by decide +kernel
theorem dX5_removeGate_23 : decode cX5_removeGate 23 = .ok (.aload_n 0, 1) := by decide +kernel
theorem dX5_removeGate_24 : decode cX5_removeGate 24 = .ok (.getfield 28, 3) := by decide +kernel
theorem dX5_removeGate_27 : decode cX5_removeGate 27 = .ok (.iload_n 1, 1) := by decide +kernel
theorem dX5_removeGate_28 : decode cX5_removeGate 28 = .ok (.invokevirtual 102, 3) := by decide +kernel
theorem dX5_removeGate_31 : decode cX5_removeGate 31 = .ok (.ifCond .eq 6, 3) := by decide +kernel
theorem dX5_removeGate_34 : decode cX5_removeGate 34 = .ok (.bipush (-102), 2) := by decide +kernel
theorem dX5_removeGate_36 : decode cX5_removeGate 36 = .ok (.ireturn, 1) := by decide +kernel
theorem dX5_removeGate_37 : decode cX5_removeGate 37 = .ok (.aload_n 0, 1) := by decide +kernel
theorem dX5_removeGate_38 : decode cX5_removeGate 38 = .ok (.getfield 35, 3) := by decide +kernel
theorem dX5_removeGate_41 : decode cX5_removeGate 41 = .ok (.aload_n 0, 1) := by decide +kernel
theorem dX5_removeGate_42 : decode cX5_removeGate 42 = .ok (.getfield 28, 3) := by decide +kernel
theorem dX5_removeGate_45 : decode cX5_removeGate 45 = .ok (.invokevirtual 89, 3) := by decide +kernel
theorem dX5_removeGate_48 : decode cX5_removeGate 48 = .ok (.aload_n 0, 1) := by decide +kernel
theorem dX5_removeGate_49 : decode cX5_removeGate 49 = .ok (.getfield 28, 3) := by decide +kernel
theorem dX5_removeGate_52 : decode cX5_removeGate 52 = .ok (.iload_n 1, 1) := by decide +kernel
theorem dX5_removeGate_53 : decode cX5_removeGate 53 = .ok (.putfield 99, 3) := by decide +kernel
theorem dX5_removeGate_56 : decode cX5_removeGate 56 = .ok (.aload_n 0, 1) := by decide +kernel
theorem dX5_removeGate_57 : decode cX5_removeGate 57 = .ok (.getfield 28, 3) := by decide +kernel
theorem dX5_removeGate_60 : decode cX5_removeGate 60 = .ok (.iload_n 1, 1) := by decide +kernel
theorem dX5_removeGate_61 : decode cX5_removeGate 61 = .ok (.invokevirtual 105, 3) := by decide +kernel
theorem dX5_removeGate_64 : decode cX5_removeGate 64 = .ok (.ireturn, 1) := by decide +kernel
set_option maxRecDepth 20000 in
theorem ggX5_addOutput_X1_hasNode : GoodIn wsX5_addOutput wsX1_hasNode := goodIn_r _ [6, 7, 47, 48, 49, 50, 51, 52, 53, 54, 55, 56] (by decide +kernel) (by decide +kernel)
set_option maxRecDepth 20000 in
theorem gX5_addOutput_X1_hasNode_n82 : GoodIn wsX5_addOutput (wsX1_hasNode) := ggX5_addOutput_X1_hasNode
set_option maxRecDepth 20000 in
theorem ggX5_addOutput_X3_save : GoodIn wsX5_addOutput wsX3_save := goodIn_r _ [11, 12, 13, 14, 15, 16, 17, 18, 19, 20, 9, 21, 22, 23, 4, 24, 25, 26, 27, 28, 29, 30, 31, 32, 33, 34, 7, 35, 36, 37, 38, 57, 58, 59, 47, 48, 49, 50, 51, 52, 53, 54, 55, 56] (by decide +kernel) (by decide +kernel)
set_option maxRecDepth 20000 in
theorem gX5_addOutput_X3_save_n89 : GoodIn wsX5_addOutput (wsX3_save) := ggX5_addOutput_X3_save
set_option maxRecDepth 20000 in
theorem ggX5_addOutput_X1_putOutput : GoodIn wsX5_addOutput wsX1_putOutput := goodIn_r _ [41, 35, 33, 47, 48, 49, 50, 51, 52, 53, 54, 55, 56] (by decide +kernel) (by decide +kernel)
set_option maxRecDepth 20000 in
theorem gX5_addOutput_X1_putOutput_n112 : GoodIn wsX5_addOutput (wsX1_putOutput) := ggX5_addOutput_X1_putOutput
theorem dX5_addOutput_0 : decode cX5_addOutput 0 = .ok (.aload_n 0, 1) := by decide +kernel
theorem dX5_addOutput_1 : decode cX5_addOutput 1 = .ok (.getfield 28, 3) := by decide +kernel
theorem dX5_addOutput_4 : decode cX5_addOutput 4 = .ok (.iload_n 1, 1) := by decide +kernel
theorem dX5_addOutput_5 : decode cX5_addOutput 5 = .ok (.invokevirtual 82, 3) := by decide +kernel
theorem dX5_addOutput_8 : decode cX5_addOutput 8 = .ok (.ifCond .ne 6, 3) := by decide +kernel
theorem dX5_addOutput_11 : decode cX5_addOutput 11 = .ok (.bipush (-101), 2) := by decide +kernel
theorem dX5_addOutput_13 : decode cX5_addOutput 13 = .ok (.ireturn, 1) := by decide +kernel
theorem dX5_addOutput_14 : decode cX5_addOutput 14 = .ok (.aload_n 0, 1) := by decide +kernel
theorem dX5_addOutput_15 : decode cX5_addOutput 15 = .ok (.getfield 28, 3) := by decide +kernel
theorem dX5_addOutput_18 : decode cX5_addOutput 18 = .ok (.getfield 109, 3) := by decide +kernel
theorem dX5_addOutput_21 : decode cX5_addOutput 21 = .ok (.bipush 6, 2) := by decide +kernel
theorem dX5_addOutput_23 : decode cX5_addOutput 23 = .ok (.if_icmp .lt 6, 3) := by decide +kernel
theorem dX5_addOutput_26 : decode cX5_addOutput 26 = .ok (.bipush (-103), 2) := by decide +kernel
theorem dX5_addOutput_28 : decode cX5_addOutput 28 = .ok (.ireturn, 1) := by decide +kernel
theorem dX5_addOutput_29 : decode cX5_addOutput 29 = .ok (.aload_n 0, 1) := by decide +kernel
theorem dX5_addOutput_30 : decode cX5_addOutput 30 = .ok (.getfield 35, 3) := by decide +kernel
theorem dX5_addOutput_33 : decode cX5_addOutput 33 = .ok (.aload_n 0, 1) := by decide +kernel
theorem dX5_addOutput_34 : decode cX5_addOutput 34 = .ok (.getfield 28, 3) := by decide +kernel
theorem dX5_addOutput_37 : decode cX5_addOutput 37 = .ok (.invokevirtual 89, 3) := by decide +kernel
theorem dX5_addOutput_40 : decode cX5_addOutput 40 = .ok (.aload_n 0, 1) := by decide +kernel
theorem dX5_addOutput_41 : decode cX5_addOutput 41 = .ok (.getfield 28, 3) := by decide +kernel
theorem dX5_addOutput_44 : decode cX5_addOutput 44 = .ok (.iload_n 1, 1) := by decide +kernel
theorem dX5_addOutput_45 : decode cX5_addOutput 45 = .ok (.invokevirtual 112, 3) := by decide +kernel
theorem dX5_addOutput_48 : decode cX5_addOutput 48 = .ok (.aload_n 0, 1) := by decide +kernel
theorem dX5_addOutput_49 : decode cX5_addOutput 49 = .ok (.getfield 28, 3) := by decide +kernel
theorem dX5_addOutput_52 : decode cX5_addOutput 52 = .ok (.getfield 109, 3) := by decide +kernel
theorem dX5_addOutput_55 : decode cX5_addOutput 55 = .ok (.ireturn, 1) := by decide +kernel
set_option maxRecDepth 20000 in
theorem ggX5_clearOutputs_X3_save : GoodIn wsX5_clearOutputs wsX3_save := goodIn_r _ [6, 7, 8, 9, 10, 11, 12, 13, 14, 15, 4, 16, 17, 18, 19, 20, 21, 22, 23, 24, 25, 26, 27, 28, 29, 30, 31, 32, 33, 34, 35, 51, 52, 53, 41, 42, 43, 44, 45, 46, 47, 48, 49, 50] (by decide +kernel) (by decide +kernel)
set_option maxRecDepth 20000 in
theorem gX5_clearOutputs_X3_save_n89 : GoodIn wsX5_clearOutputs (wsX3_save) := ggX5_clearOutputs_X3_save
theorem dX5_clearOutputs_0 : decode cX5_clearOutputs 0 = .ok (.aload_n 0, 1) := by decide +kernel
theorem dX5_clearOutputs_1 : decode cX5_clearOutputs 1 = .ok (.getfield 28, 3) := by decide +kernel
theorem dX5_clearOutputs_4 : decode cX5_clearOutputs 4 = .ok (.getfield 109, 3) := by decide +kernel
theorem dX5_clearOutputs_7 : decode cX5_clearOutputs 7 = .ok (.istore_n 1, 1) := by decide +kernel
theorem dX5_clearOutputs_8 : decode cX5_clearOutputs 8 = .ok (.aload_n 0, 1) := by decide +kernel
theorem dX5_clearOutputs_9 : decode cX5_clearOutputs 9 = .ok (.getfield 35, 3) := by decide +kernel
theorem dX5_clearOutputs_12 : decode cX5_clearOutputs 12 = .ok (.aload_n 0, 1) := by decide +kernel
theorem dX5_clearOutputs_13 : decode cX5_clearOutputs 13 = .ok (.getfield 28, 3) := by decide +kernel
theorem dX5_clearOutputs_16 : decode cX5_clearOutputs 16 = .ok (.invokevirtual 89, 3) := by decide +kernel
theorem dX5_clearOutputs_19 : decode cX5_clearOutputs 19 = .ok (.aload_n 0, 1) := by decide +kernel
theorem dX5_clearOutputs_20 : decode cX5_clearOutputs 20 = .ok (.getfield 28, 3) := by decide +kernel
theorem dX5_clearOutputs_23 : decode cX5_clearOutputs 23 = .ok (.iconst 0, 1) := by decide +kernel
theorem dX5_clearOutputs_24 : decode cX5_clearOutputs 24 = .ok (.putfield 109, 3) := by decide +kernel
theorem dX5_clearOutputs_27 : decode cX5_clearOutputs 27 = .ok (.iload_n 1, 1) := by decide +kernel
theorem dX5_clearOutputs_28 : decode cX5_clearOutputs 28 = .ok (.ireturn, 1) := by decide +kernel
set_option maxRecDepth 20000 in
theorem ggX5_setNormal_X1_hasWord : GoodIn wsX5_setNormal wsX1_hasWord := goodIn_r _ [7, 8, 52, 53, 54, 55, 56, 57, 58, 59, 60, 61] (by decide +kernel) (by decide +kernel)
set_option maxRecDepth 20000 in
theorem gX5_setNormal_X1_hasWord_n116 : GoodIn wsX5_setNormal (wsX1_hasWord) := ggX5_setNormal_X1_hasWord
set_option maxRecDepth 20000 in
theorem ggX5_setNormal_X3_save : GoodIn wsX5_setNormal wsX3_save := goodIn_r _ [12, 13, 14, 15, 16, 17, 18, 19, 20, 21, 10, 22, 23, 24, 5, 25, 26, 27, 28, 29, 30, 31, 32, 33, 34, 8, 35, 36, 37, 38, 39, 62, 63, 64, 52, 53, 54, 55, 56, 57, 58, 59, 60, 61] (by decide +kernel) (by decide +kernel)
set_option maxRecDepth 20000 in
theorem gX5_setNormal_X3_save_n89 : GoodIn wsX5_setNormal (wsX3_save) := ggX5_setNormal_X3_save
set_option maxRecDepth 20000 in
theorem ggX5_setNormal_J13_bitCount_95d88 : GoodIn wsX5_setNormal wsJ13_bitCount_95d88 := goodIn_r _ [43, 44, 45, 46] (by decide +kernel) (by decide +kernel)
set_option maxRecDepth 20000 in
theorem gX5_setNormal_J13_bitCount_95d88 : GoodIn wsX5_setNormal (va_wsS RX5 125 yJ13_bitCount_95d88 wsJ13_bitCount_95d88) := goodIn_app (goodIn_of _ (by decide +kernel)) ggX5_setNormal_J13_bitCount_95d88
theorem dX5_setNormal_0 : decode cX5_setNormal 0 = .ok (.aload_n 0, 1) := by decide +kernel
theorem dX5_setNormal_1 : decode cX5_setNormal 1 = .ok (.getfield 28, 3) := by decide +kernel
theorem dX5_setNormal_4 : decode cX5_setNormal 4 = .ok (.iload_n 1, 1) := by decide +kernel
theorem dX5_setNormal_5 : decode cX5_setNormal 5 = .ok (.invokevirtual 116, 3) := by decide +kernel
theorem dX5_setNormal_8 : decode cX5_setNormal 8 = .ok (.ifCond .eq 12, 3) := by decide +kernel
theorem dX5_setNormal_11 : decode cX5_setNormal 11 = .ok (.iload_n 2, 1) := by decide +kernel
theorem dX5_setNormal_12 : decode cX5_setNormal 12 = .ok (.ifCond .lt 8, 3) := by decide +kernel
theorem dX5_setNormal_15 : decode cX5_setNormal 15 = .ok (.iload_n 2, 1) := by decide +kernel
theorem dX5_setNormal_16 : decode cX5_setNormal 16 = .ok (.iconst 1, 1) := by decide +kernel
theorem dX5_setNormal_17 : decode cX5_setNormal 17 = .ok (.if_icmp .le 6, 3) := by decide +kernel
theorem dX5_setNormal_20 : decode cX5_setNormal 20 = .ok (.bipush (-101), 2) := by decide +kernel
theorem dX5_setNormal_22 : decode cX5_setNormal 22 = .ok (.ireturn, 1) := by decide +kernel
theorem dX5_setNormal_23 : decode cX5_setNormal 23 = .ok (.aload_n 0, 1) := by decide +kernel
theorem dX5_setNormal_24 : decode cX5_setNormal 24 = .ok (.getfield 35, 3) := by decide +kernel
theorem dX5_setNormal_27 : decode cX5_setNormal 27 = .ok (.aload_n 0, 1) := by decide +kernel
theorem dX5_setNormal_28 : decode cX5_setNormal 28 = .ok (.getfield 28, 3) := by decide +kernel
theorem dX5_setNormal_31 : decode cX5_setNormal 31 = .ok (.invokevirtual 89, 3) := by decide +kernel
theorem dX5_setNormal_34 : decode cX5_setNormal 34 = .ok (.iload_n 2, 1) := by decide +kernel
theorem dX5_setNormal_35 : decode cX5_setNormal 35 = .ok (.iconst 1, 1) := by decide +kernel
theorem dX5_setNormal_36 : decode cX5_setNormal 36 = .ok (.if_icmp .ne 21, 3) := by decide +kernel
theorem dX5_setNormal_39 : decode cX5_setNormal 39 = .ok (.aload_n 0, 1) := by decide +kernel
theorem dX5_setNormal_40 : decode cX5_setNormal 40 = .ok (.getfield 28, 3) := by decide +kernel
theorem dX5_setNormal_43 : decode cX5_setNormal 43 = .ok (.dup, 1) := by decide +kernel
theorem dX5_setNormal_44 : decode cX5_setNormal 44 = .ok (.getfield 119, 3) := by decide +kernel
theorem dX5_setNormal_47 : decode cX5_setNormal 47 = .ok (.lconst 1, 1) := by decide +kernel
theorem dX5_setNormal_48 : decode cX5_setNormal 48 = .ok (.iload_n 1, 1) := by decide +kernel
theorem dX5_setNormal_49 : decode cX5_setNormal 49 = .ok (.lshl, 1) := by decide +kernel
theorem dX5_setNormal_50 : decode cX5_setNormal 50 = .ok (.lor, 1) := by decide +kernel
theorem dX5_setNormal_51 : decode cX5_setNormal 51 = .ok (.putfield 119, 3) := by decide +kernel
theorem dX5_setNormal_54 : decode cX5_setNormal 54 = .ok (.goto 22, 3) := by decide +kernel
theorem dX5_setNormal_57 : decode cX5_setNormal 57 = .ok (.aload_n 0, 1) := by decide +kernel
theorem dX5_setNormal_58 : decode cX5_setNormal 58 = .ok (.getfield 28, 3) := by decide +kernel
theorem dX5_setNormal_61 : decode cX5_setNormal 61 = .ok (.dup, 1) := by decide +kernel
theorem dX5_setNormal_62 : decode cX5_setNormal 62 = .ok (.getfield 119, 3) := by decide +kernel
theorem dX5_setNormal_65 : decode cX5_setNormal 65 = .ok (.lconst 1, 1) := by decide +kernel
theorem dX5_setNormal_66 : decode cX5_setNormal 66 = .ok (.iload_n 1, 1) := by decide +kernel
theorem dX5_setNormal_67 : decode cX5_setNormal 67 = .ok (.lshl, 1) := by decide +kernel
theorem dX5_setNormal_68 : decode cX5_setNormal 68 = .ok (.ldc2_w 123, 3) := by decide +kernel
theorem dX5_setNormal_71 : decode cX5_setNormal 71 = .ok (.lxor, 1) := by decide +kernel
theorem dX5_setNormal_72 : decode cX5_setNormal 72 = .ok (.land, 1) := by decide +kernel
theorem dX5_setNormal_73 : decode cX5_setNormal 73 = .ok (.putfield 119, 3) := by decide +kernel
theorem dX5_setNormal_76 : decode cX5_setNormal 76 = .ok (.aload_n 0, 1) := by decide +kernel
theorem dX5_setNormal_77 : decode cX5_setNormal 77 = .ok (.getfield 28, 3) := by decide +kernel
theorem dX5_setNormal_80 : decode cX5_setNormal 80 = .ok (.getfield 119, 3) := by decide +kernel
theorem dX5_setNormal_83 : decode cX5_setNormal 83 = .ok (.invokestatic 125, 3) := by decide +kernel
theorem dX5_setNormal_86 : decode cX5_setNormal 86 = .ok (.ireturn, 1) := by decide +kernel
set_option maxRecDepth 20000 in
theorem ggX5_setCode_X3_save : GoodIn wsX5_setCode wsX3_save := goodIn_r _ [6, 7, 8, 9, 10, 11, 12, 13, 14, 15, 4, 16, 17, 18, 19, 20, 21, 22, 23, 24, 25, 26, 27, 28, 29, 30, 31, 32, 33, 34, 35, 51, 52, 53, 41, 42, 43, 44, 45, 46, 47, 48, 49, 50] (by decide +kernel) (by decide +kernel)
set_option maxRecDepth 20000 in
theorem gX5_setCode_X3_save_n89 : GoodIn wsX5_setCode (wsX3_save) := ggX5_setCode_X3_save
theorem dX5_setCode_0 : decode cX5_setCode 0 = .ok (.iload_n 1, 1) := by decide +kernel
theorem dX5_setCode_1 : decode cX5_setCode 1 = .ok (.ifCond .lt 18, 3) := by decide +kernel
theorem dX5_setCode_4 : decode cX5_setCode 4 = .ok (.iload_n 1, 1) := by decide +kernel
theorem dX5_setCode_5 : decode cX5_setCode 5 = .ok (.iconst 3, 1) := by decide +kernel
theorem dX5_setCode_6 : decode cX5_setCode 6 = .ok (.if_icmp .gt 13, 3) := by decide +kernel
theorem dX5_setCode_9 : decode cX5_setCode 9 = .ok (.iload_n 2, 1) := by decide +kernel
theorem dX5_setCode_10 : decode cX5_setCode 10 = .ok (.ifCond .lt 9, 3) := by decide +kernel
theorem dX5_setCode_13 : decode cX5_setCode 13 = .ok (.iload_n 2, 1) := by decide +kernel
theorem dX5_setCode_14 : decode cX5_setCode 14 = .ok (.bipush 6, 2) := by decide +kernel
theorem dX5_setCode_16 : decode cX5_setCode 16 = .ok (.if_icmp .le 6, 3) := by decide +kernel
theorem dX5_setCode_19 : decode cX5_setCode 19 = .ok (.bipush (-101), 2) := by decide +kernel
theorem dX5_setCode_21 : decode cX5_setCode 21 = .ok (.ireturn, 1) := by decide +kernel
theorem dX5_setCode_22 : decode cX5_setCode 22 = .ok (.aload_n 0, 1) := by decide +kernel
theorem dX5_setCode_23 : decode cX5_setCode 23 = .ok (.getfield 28, 3) := by decide +kernel
theorem dX5_setCode_26 : decode cX5_setCode 26 = .ok (.getfield 48, 3) := by decide +kernel
theorem dX5_setCode_29 : decode cX5_setCode 29 = .ok (.istore_n 3, 1) := by decide +kernel
theorem dX5_setCode_30 : decode cX5_setCode 30 = .ok (.aload_n 0, 1) := by decide +kernel
theorem dX5_setCode_31 : decode cX5_setCode 31 = .ok (.getfield 35, 3) := by decide +kernel
theorem dX5_setCode_34 : decode cX5_setCode 34 = .ok (.aload_n 0, 1) := by decide +kernel
theorem dX5_setCode_35 : decode cX5_setCode 35 = .ok (.getfield 28, 3) := by decide +kernel
theorem dX5_setCode_38 : decode cX5_setCode 38 = .ok (.invokevirtual 89, 3) := by decide +kernel
theorem dX5_setCode_41 : decode cX5_setCode 41 = .ok (.aload_n 0, 1) := by decide +kernel
theorem dX5_setCode_42 : decode cX5_setCode 42 = .ok (.getfield 28, 3) := by decide +kernel
theorem dX5_setCode_45 : decode cX5_setCode 45 = .ok (.iload_n 1, 1) := by decide +kernel
theorem dX5_setCode_46 : decode cX5_setCode 46 = .ok (.putfield 48, 3) := by decide +kernel
theorem dX5_setCode_49 : decode cX5_setCode 49 = .ok (.aload_n 0, 1) := by decide +kernel
theorem dX5_setCode_50 : decode cX5_setCode 50 = .ok (.getfield 28, 3) := by decide +kernel
theorem dX5_setCode_53 : decode cX5_setCode 53 = .ok (.iload_n 2, 1) := by decide +kernel
theorem dX5_setCode_54 : decode cX5_setCode 54 = .ok (.putfield 131, 3) := by decide +kernel
theorem dX5_setCode_57 : decode cX5_setCode 57 = .ok (.iload_n 3, 1) := by decide +kernel
theorem dX5_setCode_58 : decode cX5_setCode 58 = .ok (.ireturn, 1) := by decide +kernel
set_option maxRecDepth 20000 in
theorem ggX5_undo_X3_restore : GoodIn wsX5_undo wsX3_restore := goodIn_r _ [6, 7, 8, 9, 10, 11, 12, 13, 14, 15, 4, 16, 17, 18, 19, 20, 21, 22, 23, 24, 25, 26, 27, 28, 29, 30, 31, 32, 33, 34, 35, 41, 42, 43, 44, 45, 46, 47, 48, 49, 50, 51, 52, 53] (by decide +kernel) (by decide +kernel)
set_option maxRecDepth 20000 in
theorem gX5_undo_X3_restore_n137 : GoodIn wsX5_undo (wsX3_restore) := ggX5_undo_X3_restore
theorem dX5_undo_0 : decode cX5_undo 0 = .ok (.aload_n 0, 1) := by decide +kernel
theorem dX5_undo_1 : decode cX5_undo 1 = .ok (.getfield 35, 3) := by decide +kernel
theorem dX5_undo_4 : decode cX5_undo 4 = .ok (.getfield 134, 3) := by decide +kernel
theorem dX5_undo_7 : decode cX5_undo 7 = .ok (.ifCond .ne 6, 3) := by decide +kernel
theorem dX5_undo_10 : decode cX5_undo 10 = .ok (.bipush (-102), 2) := by decide +kernel
theorem dX5_undo_12 : decode cX5_undo 12 = .ok (.ireturn, 1) := by decide +kernel
theorem dX5_undo_13 : decode cX5_undo 13 = .ok (.aload_n 0, 1) := by decide +kernel
theorem dX5_undo_14 : decode cX5_undo 14 = .ok (.getfield 35, 3) := by decide +kernel
theorem dX5_undo_17 : decode cX5_undo 17 = .ok (.aload_n 0, 1) := by decide +kernel
theorem dX5_undo_18 : decode cX5_undo 18 = .ok (.getfield 28, 3) := by decide +kernel
theorem dX5_undo_21 : decode cX5_undo 21 = .ok (.invokevirtual 137, 3) := by decide +kernel
theorem dX5_undo_24 : decode cX5_undo 24 = .ok (.aload_n 0, 1) := by decide +kernel
theorem dX5_undo_25 : decode cX5_undo 25 = .ok (.getfield 35, 3) := by decide +kernel
theorem dX5_undo_28 : decode cX5_undo 28 = .ok (.getfield 134, 3) := by decide +kernel
theorem dX5_undo_31 : decode cX5_undo 31 = .ok (.ireturn, 1) := by decide +kernel
theorem dX5_nodeCount_0 : decode cX5_nodeCount 0 = .ok (.aload_n 0, 1) := by decide +kernel
theorem dX5_nodeCount_1 : decode cX5_nodeCount 1 = .ok (.getfield 28, 3) := by decide +kernel
theorem dX5_nodeCount_4 : decode cX5_nodeCount 4 = .ok (.getfield 99, 3) := by decide +kernel
theorem dX5_nodeCount_7 : decode cX5_nodeCount 7 = .ok (.ireturn, 1) := by decide +kernel
set_option maxRecDepth 20000 in
theorem ggX5_typeOf_X1_hasNode : GoodIn wsX5_typeOf wsX1_hasNode := goodIn_r _ [5, 6, 16, 17, 18, 19, 20, 21, 22, 23, 24, 25] (by decide +kernel) (by decide +kernel)
set_option maxRecDepth 20000 in
theorem gX5_typeOf_X1_hasNode_n82 : GoodIn wsX5_typeOf (wsX1_hasNode) := ggX5_typeOf_X1_hasNode
set_option maxRecDepth 20000 in
theorem ggX5_typeOf_X1_type : GoodIn wsX5_typeOf wsX1_type := goodIn_r _ [9, 10, 16, 17, 18, 19, 20, 21, 22, 23, 24, 25] (by decide +kernel) (by decide +kernel)
set_option maxRecDepth 20000 in
theorem gX5_typeOf_X1_type_n105 : GoodIn wsX5_typeOf (wsX1_type) := ggX5_typeOf_X1_type
theorem dX5_typeOf_0 : decode cX5_typeOf 0 = .ok (.aload_n 0, 1) := by decide +kernel
theorem dX5_typeOf_1 : decode cX5_typeOf 1 = .ok (.getfield 28, 3) := by decide +kernel
theorem dX5_typeOf_4 : decode cX5_typeOf 4 = .ok (.iload_n 1, 1) := by decide +kernel
theorem dX5_typeOf_5 : decode cX5_typeOf 5 = .ok (.invokevirtual 82, 3) := by decide +kernel
theorem dX5_typeOf_8 : decode cX5_typeOf 8 = .ok (.ifCond .eq 14, 3) := by decide +kernel
theorem dX5_typeOf_11 : decode cX5_typeOf 11 = .ok (.aload_n 0, 1) := by decide +kernel
theorem dX5_typeOf_12 : decode cX5_typeOf 12 = .ok (.getfield 28, 3) := by decide +kernel
theorem dX5_typeOf_15 : decode cX5_typeOf 15 = .ok (.iload_n 1, 1) := by decide +kernel
theorem dX5_typeOf_16 : decode cX5_typeOf 16 = .ok (.invokevirtual 105, 3) := by decide +kernel
theorem dX5_typeOf_19 : decode cX5_typeOf 19 = .ok (.goto 5, 3) := by decide +kernel
theorem dX5_typeOf_22 : decode cX5_typeOf 22 = .ok (.bipush (-101), 2) := by decide +kernel
theorem dX5_typeOf_24 : decode cX5_typeOf 24 = .ok (.ireturn, 1) := by decide +kernel
set_option maxRecDepth 20000 in
theorem ggX5_operandOf_X1_hasNode : GoodIn wsX5_operandOf wsX1_hasNode := goodIn_r _ [5, 6, 28, 29, 30, 31, 32, 33, 34, 35, 36, 37] (by decide +kernel) (by decide +kernel)
set_option maxRecDepth 20000 in
theorem gX5_operandOf_X1_hasNode_n82 : GoodIn wsX5_operandOf (wsX1_hasNode) := ggX5_operandOf_X1_hasNode
set_option maxRecDepth 20000 in
theorem ggX5_operandOf_X1_type : GoodIn wsX5_operandOf wsX1_type := goodIn_r _ [9, 10, 28, 29, 30, 31, 32, 33, 34, 35, 36, 37] (by decide +kernel) (by decide +kernel)
set_option maxRecDepth 20000 in
theorem gX5_operandOf_X1_type_n105 : GoodIn wsX5_operandOf (wsX1_type) := ggX5_operandOf_X1_type
set_option maxRecDepth 20000 in
theorem ggX5_operandOf_X5_operandsOfType : GoodIn wsX5_operandOf wsX5_operandsOfType := goodIn_r _ [14] (by decide +kernel) (by decide +kernel)
set_option maxRecDepth 20000 in
theorem gX5_operandOf_X5_operandsOfType : GoodIn wsX5_operandOf (va_wsS RX5 140 yX5_operandsOfType wsX5_operandsOfType) := goodIn_app (goodIn_of _ (by decide +kernel)) ggX5_operandOf_X5_operandsOfType
set_option maxRecDepth 20000 in
theorem ggX5_operandOf_X1_first : GoodIn wsX5_operandOf wsX1_first := goodIn_r _ [17, 18, 28, 29, 30, 31, 32, 33, 34, 35, 36, 37] (by decide +kernel) (by decide +kernel)
set_option maxRecDepth 20000 in
theorem gX5_operandOf_X1_first_n143 : GoodIn wsX5_operandOf (wsX1_first) := ggX5_operandOf_X1_first
set_option maxRecDepth 20000 in
theorem ggX5_operandOf_X1_second : GoodIn wsX5_operandOf wsX1_second := goodIn_r _ [21, 22, 28, 29, 30, 31, 32, 33, 34, 35, 36, 37] (by decide +kernel) (by decide +kernel)
set_option maxRecDepth 20000 in
theorem gX5_operandOf_X1_second_n146 : GoodIn wsX5_operandOf (wsX1_second) := ggX5_operandOf_X1_second
theorem dX5_operandOf_0 : decode cX5_operandOf 0 = .ok (.aload_n 0, 1) := by decide +kernel
theorem dX5_operandOf_1 : decode cX5_operandOf 1 = .ok (.getfield 28, 3) := by decide +kernel
theorem dX5_operandOf_4 : decode cX5_operandOf 4 = .ok (.iload_n 1, 1) := by decide +kernel
theorem dX5_operandOf_5 : decode cX5_operandOf 5 = .ok (.invokevirtual 82, 3) := by decide +kernel
theorem dX5_operandOf_8 : decode cX5_operandOf 8 = .ok (.ifCond .eq 12, 3) := by decide +kernel
theorem dX5_operandOf_11 : decode cX5_operandOf 11 = .ok (.iload_n 2, 1) := by decide +kernel
theorem dX5_operandOf_12 : decode cX5_operandOf 12 = .ok (.ifCond .lt 8, 3) := by decide +kernel
theorem dX5_operandOf_15 : decode cX5_operandOf 15 = .ok (.iload_n 2, 1) := by decide +kernel
theorem dX5_operandOf_16 : decode cX5_operandOf 16 = .ok (.iconst 1, 1) := by decide +kernel
theorem dX5_operandOf_17 : decode cX5_operandOf 17 = .ok (.if_icmp .le 6, 3) := by decide +kernel
theorem dX5_operandOf_20 : decode cX5_operandOf 20 = .ok (.bipush (-101), 2) := by decide +kernel
theorem dX5_operandOf_22 : decode cX5_operandOf 22 = .ok (.ireturn, 1) := by decide +kernel
theorem dX5_operandOf_23 : decode cX5_operandOf 23 = .ok (.iload_n 2, 1) := by decide +kernel
theorem dX5_operandOf_24 : decode cX5_operandOf 24 = .ok (.aload_n 0, 1) := by decide +kernel
theorem dX5_operandOf_25 : decode cX5_operandOf 25 = .ok (.getfield 28, 3) := by decide +kernel
theorem dX5_operandOf_28 : decode cX5_operandOf 28 = .ok (.iload_n 1, 1) := by decide +kernel
theorem dX5_operandOf_29 : decode cX5_operandOf 29 = .ok (.invokevirtual 105, 3) := by decide +kernel
theorem dX5_operandOf_32 : decode cX5_operandOf 32 = .ok (.invokestatic 140, 3) := by decide +kernel
theorem dX5_operandOf_35 : decode cX5_operandOf 35 = .ok (.if_icmp .lt 6, 3) := by decide +kernel
theorem dX5_operandOf_38 : decode cX5_operandOf 38 = .ok (.bipush (-104), 2) := by decide +kernel
theorem dX5_operandOf_40 : decode cX5_operandOf 40 = .ok (.ireturn, 1) := by decide +kernel
theorem dX5_operandOf_41 : decode cX5_operandOf 41 = .ok (.iload_n 2, 1) := by decide +kernel
theorem dX5_operandOf_42 : decode cX5_operandOf 42 = .ok (.ifCond .ne 14, 3) := by decide +kernel
theorem dX5_operandOf_45 : decode cX5_operandOf 45 = .ok (.aload_n 0, 1) := by decide +kernel
theorem dX5_operandOf_46 : decode cX5_operandOf 46 = .ok (.getfield 28, 3) := by decide +kernel
theorem dX5_operandOf_49 : decode cX5_operandOf 49 = .ok (.iload_n 1, 1) := by decide +kernel
theorem dX5_operandOf_50 : decode cX5_operandOf 50 = .ok (.invokevirtual 143, 3) := by decide +kernel
theorem dX5_operandOf_53 : decode cX5_operandOf 53 = .ok (.goto 11, 3) := by decide +kernel
theorem dX5_operandOf_56 : decode cX5_operandOf 56 = .ok (.aload_n 0, 1) := by decide +kernel
theorem dX5_operandOf_57 : decode cX5_operandOf 57 = .ok (.getfield 28, 3) := by decide +kernel
theorem dX5_operandOf_60 : decode cX5_operandOf 60 = .ok (.iload_n 1, 1) := by decide +kernel
theorem dX5_operandOf_61 : decode cX5_operandOf 61 = .ok (.invokevirtual 146, 3) := by decide +kernel
theorem dX5_operandOf_64 : decode cX5_operandOf 64 = .ok (.ireturn, 1) := by decide +kernel
set_option maxRecDepth 20000 in
theorem ggX5_outputNode_X1_nodeOfOutput : GoodIn wsX5_outputNode wsX1_nodeOfOutput := goodIn_r _ [5, 6, 12, 13, 14, 15, 16, 17, 18, 19, 20, 21] (by decide +kernel) (by decide +kernel)
set_option maxRecDepth 20000 in
theorem gX5_outputNode_X1_nodeOfOutput_n149 : GoodIn wsX5_outputNode (wsX1_nodeOfOutput) := ggX5_outputNode_X1_nodeOfOutput
theorem dX5_outputNode_0 : decode cX5_outputNode 0 = .ok (.iload_n 1, 1) := by decide +kernel
theorem dX5_outputNode_1 : decode cX5_outputNode 1 = .ok (.ifCond .lt 14, 3) := by decide +kernel
theorem dX5_outputNode_4 : decode cX5_outputNode 4 = .ok (.iload_n 1, 1) := by decide +kernel
theorem dX5_outputNode_5 : decode cX5_outputNode 5 = .ok (.aload_n 0, 1) := by decide +kernel
theorem dX5_outputNode_6 : decode cX5_outputNode 6 = .ok (.getfield 28, 3) := by decide +kernel
theorem dX5_outputNode_9 : decode cX5_outputNode 9 = .ok (.getfield 109, 3) := by decide +kernel
theorem dX5_outputNode_12 : decode cX5_outputNode 12 = .ok (.if_icmp .lt 6, 3) := by decide +kernel
theorem dX5_outputNode_15 : decode cX5_outputNode 15 = .ok (.bipush (-101), 2) := by decide +kernel
theorem dX5_outputNode_17 : decode cX5_outputNode 17 = .ok (.ireturn, 1) := by decide +kernel
theorem dX5_outputNode_18 : decode cX5_outputNode 18 = .ok (.aload_n 0, 1) := by decide +kernel
theorem dX5_outputNode_19 : decode cX5_outputNode 19 = .ok (.getfield 28, 3) := by decide +kernel
theorem dX5_outputNode_22 : decode cX5_outputNode 22 = .ok (.iload_n 1, 1) := by decide +kernel
theorem dX5_outputNode_23 : decode cX5_outputNode 23 = .ok (.invokevirtual 149, 3) := by decide +kernel
theorem dX5_outputNode_26 : decode cX5_outputNode 26 = .ok (.ireturn, 1) := by decide +kernel
set_option maxRecDepth 20000 in
theorem ggX5_isNormal_X1_hasWord : GoodIn wsX5_isNormal wsX1_hasWord := goodIn_r _ [5, 6, 16, 17, 18, 19, 20, 21, 22, 23, 24, 25] (by decide +kernel) (by decide +kernel)
set_option maxRecDepth 20000 in
theorem gX5_isNormal_X1_hasWord_n116 : GoodIn wsX5_isNormal (wsX1_hasWord) := ggX5_isNormal_X1_hasWord
set_option maxRecDepth 20000 in
theorem ggX5_isNormal_X5_bit : GoodIn wsX5_isNormal wsX5_bit := goodIn_r _ [10] (by decide +kernel) (by decide +kernel)
set_option maxRecDepth 20000 in
theorem gX5_isNormal_X5_bit : GoodIn wsX5_isNormal (va_wsS RX5 152 yX5_bit wsX5_bit) := goodIn_app (goodIn_of _ (by decide +kernel)) ggX5_isNormal_X5_bit
theorem dX5_isNormal_0 : decode cX5_isNormal 0 = .ok (.aload_n 0, 1) := by decide +kernel
theorem dX5_isNormal_1 : decode cX5_isNormal 1 = .ok (.getfield 28, 3) := by decide +kernel
theorem dX5_isNormal_4 : decode cX5_isNormal 4 = .ok (.iload_n 1, 1) := by decide +kernel
theorem dX5_isNormal_5 : decode cX5_isNormal 5 = .ok (.invokevirtual 116, 3) := by decide +kernel
theorem dX5_isNormal_8 : decode cX5_isNormal 8 = .ok (.ifCond .ne 6, 3) := by decide +kernel
theorem dX5_isNormal_11 : decode cX5_isNormal 11 = .ok (.bipush (-101), 2) := by decide +kernel
theorem dX5_isNormal_13 : decode cX5_isNormal 13 = .ok (.ireturn, 1) := by decide +kernel
theorem dX5_isNormal_14 : decode cX5_isNormal 14 = .ok (.aload_n 0, 1) := by decide +kernel
theorem dX5_isNormal_15 : decode cX5_isNormal 15 = .ok (.getfield 28, 3) := by decide +kernel
theorem dX5_isNormal_18 : decode cX5_isNormal 18 = .ok (.getfield 119, 3) := by decide +kernel
theorem dX5_isNormal_21 : decode cX5_isNormal 21 = .ok (.iload_n 1, 1) := by decide +kernel
theorem dX5_isNormal_22 : decode cX5_isNormal 22 = .ok (.invokestatic 152, 3) := by decide +kernel
theorem dX5_isNormal_25 : decode cX5_isNormal 25 = .ok (.ireturn, 1) := by decide +kernel
set_option maxRecDepth 20000 in
theorem ggX5_outputWord_X1_hasWord : GoodIn wsX5_outputWord wsX1_hasWord := goodIn_r _ [6, 7, 68, 69, 70, 71, 72, 73, 74, 75, 76, 77] (by decide +kernel) (by decide +kernel)
set_option maxRecDepth 20000 in
theorem gX5_outputWord_X1_hasWord_n116 : GoodIn wsX5_outputWord (wsX1_hasWord) := ggX5_outputWord_X1_hasWord
set_option maxRecDepth 20000 in
theorem ggX5_outputWord_X1_hasFault : GoodIn wsX5_outputWord wsX1_hasFault := goodIn_r _ [10, 11, 12, 13, 4, 14, 15, 68, 69, 70, 71, 72, 73, 74, 75, 76, 77] (by decide +kernel) (by decide +kernel)
set_option maxRecDepth 20000 in
theorem gX5_outputWord_X1_hasFault_n156 : GoodIn wsX5_outputWord (wsX1_hasFault) := ggX5_outputWord_X1_hasFault
set_option maxRecDepth 20000 in
theorem ggX5_outputWord_X0_wordOut : GoodIn wsX5_outputWord wsX0_wordOut := goodIn_r _ [19, 20, 21, 22, 17, 23, 24, 25, 26, 27, 28, 29, 30, 31, 32, 33, 34, 35, 36, 4, 37, 38, 39, 40, 41, 42, 43, 44, 45, 46, 47, 48, 49, 50, 51, 52, 53, 54, 55, 56, 57, 58, 59, 60, 61, 62, 78, 79, 80, 81, 82, 83, 68, 69, 70, 71, 72, 73, 74, 75, 76, 77] (by decide +kernel) (by decide +kernel)
set_option maxRecDepth 20000 in
theorem gX5_outputWord_X0_wordOut_n159 : GoodIn wsX5_outputWord (wsX0_wordOut) := ggX5_outputWord_X0_wordOut
theorem dX5_outputWord_0 : decode cX5_outputWord 0 = .ok (.aload_n 0, 1) := by decide +kernel
theorem dX5_outputWord_1 : decode cX5_outputWord 1 = .ok (.getfield 28, 3) := by decide +kernel
theorem dX5_outputWord_4 : decode cX5_outputWord 4 = .ok (.iload_n 1, 1) := by decide +kernel
theorem dX5_outputWord_5 : decode cX5_outputWord 5 = .ok (.invokevirtual 116, 3) := by decide +kernel
theorem dX5_outputWord_8 : decode cX5_outputWord 8 = .ok (.ifCond .eq 19, 3) := by decide +kernel
theorem dX5_outputWord_11 : decode cX5_outputWord 11 = .ok (.iload_n 2, 1) := by decide +kernel
theorem dX5_outputWord_12 : decode cX5_outputWord 12 = .ok (.iconst (-1), 1) := by decide +kernel
theorem dX5_outputWord_13 : decode cX5_outputWord 13 = .ok (.if_icmp .eq 17, 3) := by decide +kernel
theorem dX5_outputWord_16 : decode cX5_outputWord 16 = .ok (.aload_n 0, 1) := by decide +kernel
theorem dX5_outputWord_17 : decode cX5_outputWord 17 = .ok (.getfield 28, 3) := by decide +kernel
theorem dX5_outputWord_20 : decode cX5_outputWord 20 = .ok (.iload_n 2, 1) := by decide +kernel
theorem dX5_outputWord_21 : decode cX5_outputWord 21 = .ok (.invokevirtual 156, 3) := by decide +kernel
theorem dX5_outputWord_24 : decode cX5_outputWord 24 = .ok (.ifCond .ne 6, 3) := by decide +kernel
theorem dX5_outputWord_27 : decode cX5_outputWord 27 = .ok (.bipush (-101), 2) := by decide +kernel
theorem dX5_outputWord_29 : decode cX5_outputWord 29 = .ok (.ireturn, 1) := by decide +kernel
theorem dX5_outputWord_30 : decode cX5_outputWord 30 = .ok (.aload_n 0, 1) := by decide +kernel
theorem dX5_outputWord_31 : decode cX5_outputWord 31 = .ok (.getfield 44, 3) := by decide +kernel
theorem dX5_outputWord_34 : decode cX5_outputWord 34 = .ok (.iload_n 1, 1) := by decide +kernel
theorem dX5_outputWord_35 : decode cX5_outputWord 35 = .ok (.iload_n 2, 1) := by decide +kernel
theorem dX5_outputWord_36 : decode cX5_outputWord 36 = .ok (.invokevirtual 159, 3) := by decide +kernel
theorem dX5_outputWord_39 : decode cX5_outputWord 39 = .ok (.ireturn, 1) := by decide +kernel
set_option maxRecDepth 20000 in
theorem ggX5_isCodeWord_X0_isInCode : GoodIn wsX5_isCodeWord wsX0_isInCode := goodIn_r _ [6, 7, 8, 9, 4, 10, 11, 12, 13, 14, 15, 16, 17, 18, 19, 20, 21, 22, 23, 24, 25, 26, 27, 28, 29, 30, 31, 32, 33, 34, 35, 36, 37, 38, 39, 40, 41, 57, 58, 59, 60, 61, 62, 47, 48, 49, 50, 51, 52, 53, 54, 55, 56] (by decide +kernel) (by decide +kernel)
set_option maxRecDepth 20000 in
theorem gX5_isCodeWord_X0_isInCode_n163 : GoodIn wsX5_isCodeWord (wsX0_isInCode) := ggX5_isCodeWord_X0_isInCode
theorem dX5_isCodeWord_0 : decode cX5_isCodeWord 0 = .ok (.iload_n 1, 1) := by decide +kernel
theorem dX5_isCodeWord_1 : decode cX5_isCodeWord 1 = .ok (.ifCond .lt 16, 3) := by decide +kernel
theorem dX5_isCodeWord_4 : decode cX5_isCodeWord 4 = .ok (.iload_n 1, 1) := by decide +kernel
theorem dX5_isCodeWord_5 : decode cX5_isCodeWord 5 = .ok (.iconst 1, 1) := by decide +kernel
theorem dX5_isCodeWord_6 : decode cX5_isCodeWord 6 = .ok (.aload_n 0, 1) := by decide +kernel
theorem dX5_isCodeWord_7 : decode cX5_isCodeWord 7 = .ok (.getfield 28, 3) := by decide +kernel
theorem dX5_isCodeWord_10 : decode cX5_isCodeWord 10 = .ok (.getfield 109, 3) := by decide +kernel
theorem dX5_isCodeWord_13 : decode cX5_isCodeWord 13 = .ok (.ishl, 1) := by decide +kernel
theorem dX5_isCodeWord_14 : decode cX5_isCodeWord 14 = .ok (.if_icmp .lt 6, 3) := by decide +kernel
theorem dX5_isCodeWord_17 : decode cX5_isCodeWord 17 = .ok (.bipush (-101), 2) := by decide +kernel
theorem dX5_isCodeWord_19 : decode cX5_isCodeWord 19 = .ok (.ireturn, 1) := by decide +kernel
theorem dX5_isCodeWord_20 : decode cX5_isCodeWord 20 = .ok (.aload_n 0, 1) := by decide +kernel
theorem dX5_isCodeWord_21 : decode cX5_isCodeWord 21 = .ok (.getfield 44, 3) := by decide +kernel
theorem dX5_isCodeWord_24 : decode cX5_isCodeWord 24 = .ok (.iload_n 1, 1) := by decide +kernel
theorem dX5_isCodeWord_25 : decode cX5_isCodeWord 25 = .ok (.invokevirtual 163, 3) := by decide +kernel
theorem dX5_isCodeWord_28 : decode cX5_isCodeWord 28 = .ok (.ifCond .eq 7, 3) := by decide +kernel
theorem dX5_isCodeWord_31 : decode cX5_isCodeWord 31 = .ok (.iconst 1, 1) := by decide +kernel
theorem dX5_isCodeWord_32 : decode cX5_isCodeWord 32 = .ok (.goto 4, 3) := by decide +kernel
theorem dX5_isCodeWord_35 : decode cX5_isCodeWord 35 = .ok (.iconst 0, 1) := by decide +kernel
theorem dX5_isCodeWord_36 : decode cX5_isCodeWord 36 = .ok (.ireturn, 1) := by decide +kernel
set_option maxRecDepth 20000 in
theorem ggX5_errorKind_X1_hasWord : GoodIn wsX5_errorKind wsX1_hasWord := goodIn_r _ [6, 7, 68, 69, 70, 71, 72, 73, 74, 75, 76, 77] (by decide +kernel) (by decide +kernel)
set_option maxRecDepth 20000 in
theorem gX5_errorKind_X1_hasWord_n116 : GoodIn wsX5_errorKind (wsX1_hasWord) := ggX5_errorKind_X1_hasWord
set_option maxRecDepth 20000 in
theorem ggX5_errorKind_X1_hasFault : GoodIn wsX5_errorKind wsX1_hasFault := goodIn_r _ [10, 11, 12, 13, 4, 14, 15, 68, 69, 70, 71, 72, 73, 74, 75, 76, 77] (by decide +kernel) (by decide +kernel)
set_option maxRecDepth 20000 in
theorem gX5_errorKind_X1_hasFault_n156 : GoodIn wsX5_errorKind (wsX1_hasFault) := ggX5_errorKind_X1_hasFault
set_option maxRecDepth 20000 in
theorem ggX5_errorKind_X0_wordOut : GoodIn wsX5_errorKind wsX0_wordOut := goodIn_r _ [19, 20, 21, 22, 17, 23, 24, 25, 26, 27, 28, 29, 30, 31, 32, 33, 34, 35, 36, 4, 37, 38, 39, 40, 41, 42, 43, 44, 45, 46, 47, 48, 49, 50, 51, 52, 53, 54, 55, 56, 57, 58, 59, 60, 61, 62, 78, 79, 80, 81, 82, 83, 68, 69, 70, 71, 72, 73, 74, 75, 76, 77] (by decide +kernel) (by decide +kernel)
set_option maxRecDepth 20000 in
theorem gX5_errorKind_X0_wordOut_n159 : GoodIn wsX5_errorKind (wsX0_wordOut) := ggX5_errorKind_X0_wordOut
theorem dX5_errorKind_0 : decode cX5_errorKind 0 = .ok (.aload_n 0, 1) := by decide +kernel
theorem dX5_errorKind_1 : decode cX5_errorKind 1 = .ok (.getfield 28, 3) := by decide +kernel
theorem dX5_errorKind_4 : decode cX5_errorKind 4 = .ok (.iload_n 1, 1) := by decide +kernel
theorem dX5_errorKind_5 : decode cX5_errorKind 5 = .ok (.invokevirtual 116, 3) := by decide +kernel
theorem dX5_errorKind_8 : decode cX5_errorKind 8 = .ok (.ifCond .eq 14, 3) := by decide +kernel
theorem dX5_errorKind_11 : decode cX5_errorKind 11 = .ok (.aload_n 0, 1) := by decide +kernel
theorem dX5_errorKind_12 : decode cX5_errorKind 12 = .ok (.getfield 28, 3) := by decide +kernel
theorem dX5_errorKind_15 : decode cX5_errorKind 15 = .ok (.iload_n 2, 1) := by decide +kernel
theorem dX5_errorKind_16 : decode cX5_errorKind 16 = .ok (.invokevirtual 156, 3) := by decide +kernel
theorem dX5_errorKind_19 : decode cX5_errorKind 19 = .ok (.ifCond .ne 6, 3) := by decide +kernel
theorem dX5_errorKind_22 : decode cX5_errorKind 22 = .ok (.bipush (-101), 2) := by decide +kernel
theorem dX5_errorKind_24 : decode cX5_errorKind 24 = .ok (.ireturn, 1) := by decide +kernel
theorem dX5_errorKind_25 : decode cX5_errorKind 25 = .ok (.aload_n 0, 1) := by decide +kernel
theorem dX5_errorKind_26 : decode cX5_errorKind 26 = .ok (.getfield 44, 3) := by decide +kernel
theorem dX5_errorKind_29 : decode cX5_errorKind 29 = .ok (.iload_n 1, 1) := by decide +kernel
theorem dX5_errorKind_30 : decode cX5_errorKind 30 = .ok (.iconst (-1), 1) := by decide +kernel
theorem dX5_errorKind_31 : decode cX5_errorKind 31 = .ok (.invokevirtual 159, 3) := by decide +kernel
theorem dX5_errorKind_34 : decode cX5_errorKind 34 = .ok (.istore_n 3, 1) := by decide +kernel
theorem dX5_errorKind_35 : decode cX5_errorKind 35 = .ok (.aload_n 0, 1) := by decide +kernel
theorem dX5_errorKind_36 : decode cX5_errorKind 36 = .ok (.getfield 44, 3) := by decide +kernel
theorem dX5_errorKind_39 : decode cX5_errorKind 39 = .ok (.iload_n 1, 1) := by decide +kernel
theorem dX5_errorKind_40 : decode cX5_errorKind 40 = .ok (.iload_n 2, 1) := by decide +kernel
theorem dX5_errorKind_41 : decode cX5_errorKind 41 = .ok (.invokevirtual 159, 3) := by decide +kernel
theorem dX5_errorKind_44 : decode cX5_errorKind 44 = .ok (.istore 4, 2) := by decide +kernel
theorem dX5_errorKind_46 : decode cX5_errorKind 46 = .ok (.iconst 0, 1) := by decide +kernel
theorem dX5_errorKind_47 : decode cX5_errorKind 47 = .ok (.istore 5, 2) := by decide +kernel
theorem dX5_errorKind_49 : decode cX5_errorKind 49 = .ok (.iload 4, 2) := by decide +kernel
theorem dX5_errorKind_51 : decode cX5_errorKind 51 = .ok (.iload_n 3, 1) := by decide +kernel
theorem dX5_errorKind_52 : decode cX5_errorKind 52 = .ok (.iconst (-1), 1) := by decide +kernel
theorem dX5_errorKind_53 : decode cX5_errorKind 53 = .ok (.ixor, 1) := by decide +kernel
theorem dX5_errorKind_54 : decode cX5_errorKind 54 = .ok (.iand, 1) := by decide +kernel
theorem dX5_errorKind_55 : decode cX5_errorKind 55 = .ok (.ifCond .eq 9, 3) := by decide +kernel
theorem dX5_errorKind_58 : decode cX5_errorKind 58 = .ok (.iload 5, 2) := by decide +kernel
theorem dX5_errorKind_60 : decode cX5_errorKind 60 = .ok (.iconst 1, 1) := by decide +kernel
theorem dX5_errorKind_61 : decode cX5_errorKind 61 = .ok (.ior, 1) := by decide +kernel
theorem dX5_errorKind_62 : decode cX5_errorKind 62 = .ok (.istore 5, 2) := by decide +kernel
theorem dX5_errorKind_64 : decode cX5_errorKind 64 = .ok (.iload_n 3, 1) := by decide +kernel
theorem dX5_errorKind_65 : decode cX5_errorKind 65 = .ok (.iload 4, 2) := by decide +kernel
theorem dX5_errorKind_67 : decode cX5_errorKind 67 = .ok (.iconst (-1), 1) := by decide +kernel
theorem dX5_errorKind_68 : decode cX5_errorKind 68 = .ok (.ixor, 1) := by decide +kernel
theorem dX5_errorKind_69 : decode cX5_errorKind 69 = .ok (.iand, 1) := by decide +kernel
theorem dX5_errorKind_70 : decode cX5_errorKind 70 = .ok (.ifCond .eq 9, 3) := by decide +kernel
theorem dX5_errorKind_73 : decode cX5_errorKind 73 = .ok (.iload 5, 2) := by decide +kernel
theorem dX5_errorKind_75 : decode cX5_errorKind 75 = .ok (.iconst 2, 1) := by decide +kernel
theorem dX5_errorKind_76 : decode cX5_errorKind 76 = .ok (.ior, 1) := by decide +kernel
theorem dX5_errorKind_77 : decode cX5_errorKind 77 = .ok (.istore 5, 2) := by decide +kernel
theorem dX5_errorKind_79 : decode cX5_errorKind 79 = .ok (.iload 5, 2) := by decide +kernel
theorem dX5_errorKind_81 : decode cX5_errorKind 81 = .ok (.ireturn, 1) := by decide +kernel
set_option maxRecDepth 20000 in
theorem ggX5_firstTest_X1_hasFault : GoodIn wsX5_firstTest wsX1_hasFault := goodIn_r _ [6, 7, 8, 9, 4, 10, 11, 93, 94, 95, 96, 97, 98, 99, 100, 101, 102] (by decide +kernel) (by decide +kernel)
set_option maxRecDepth 20000 in
theorem gX5_firstTest_X1_hasFault_n156 : GoodIn wsX5_firstTest (wsX1_hasFault) := ggX5_firstTest_X1_hasFault
set_option maxRecDepth 20000 in
theorem ggX5_firstTest_X0_exposing : GoodIn wsX5_firstTest wsX0_exposing := goodIn_r _ [15, 16, 17, 18, 19, 20, 13, 21, 22, 23, 24, 25, 26, 27, 28, 29, 30, 31, 32, 4, 33, 34, 35, 36, 37, 38, 39, 40, 41, 42, 43, 44, 45, 46, 47, 48, 49, 50, 51, 52, 53, 54, 55, 56, 57, 58, 59, 60, 61, 62, 63, 64, 65, 66, 67, 68, 69, 70, 71, 72, 73, 74, 75, 76, 77, 78, 79, 80, 103, 104, 105, 106, 107, 108, 93, 94, 95, 96, 97, 98, 99, 100, 101, 102] (by decide +kernel) (by decide +kernel)
set_option maxRecDepth 20000 in
theorem gX5_firstTest_X0_exposing_n166 : GoodIn wsX5_firstTest (wsX0_exposing) := ggX5_firstTest_X0_exposing
set_option maxRecDepth 20000 in
theorem ggX5_firstTest_X5_least : GoodIn wsX5_firstTest wsX5_least := goodIn_r _ [84, 85, 86, 83, 87] (by decide +kernel) (by decide +kernel)
set_option maxRecDepth 20000 in
theorem gX5_firstTest_X5_least : GoodIn wsX5_firstTest (va_wsS RX5 170 yX5_least wsX5_least) := goodIn_app (goodIn_of _ (by decide +kernel)) ggX5_firstTest_X5_least
theorem dX5_firstTest_0 : decode cX5_firstTest 0 = .ok (.aload_n 0, 1) := by decide +kernel
theorem dX5_firstTest_1 : decode cX5_firstTest 1 = .ok (.getfield 28, 3) := by decide +kernel
theorem dX5_firstTest_4 : decode cX5_firstTest 4 = .ok (.iload_n 1, 1) := by decide +kernel
theorem dX5_firstTest_5 : decode cX5_firstTest 5 = .ok (.invokevirtual 156, 3) := by decide +kernel
theorem dX5_firstTest_8 : decode cX5_firstTest 8 = .ok (.ifCond .ne 6, 3) := by decide +kernel
theorem dX5_firstTest_11 : decode cX5_firstTest 11 = .ok (.bipush (-101), 2) := by decide +kernel
theorem dX5_firstTest_13 : decode cX5_firstTest 13 = .ok (.ireturn, 1) := by decide +kernel
theorem dX5_firstTest_14 : decode cX5_firstTest 14 = .ok (.aload_n 0, 1) := by decide +kernel
theorem dX5_firstTest_15 : decode cX5_firstTest 15 = .ok (.getfield 44, 3) := by decide +kernel
theorem dX5_firstTest_18 : decode cX5_firstTest 18 = .ok (.iload_n 1, 1) := by decide +kernel
theorem dX5_firstTest_19 : decode cX5_firstTest 19 = .ok (.invokevirtual 166, 3) := by decide +kernel
theorem dX5_firstTest_22 : decode cX5_firstTest 22 = .ok (.invokestatic 170, 3) := by decide +kernel
theorem dX5_firstTest_25 : decode cX5_firstTest 25 = .ok (.ireturn, 1) := by decide +kernel
set_option maxRecDepth 20000 in
theorem ggX5_firstUnsafe_X1_hasFault : GoodIn wsX5_firstUnsafe wsX1_hasFault := goodIn_r _ [6, 7, 8, 9, 4, 10, 11, 98, 99, 100, 101, 102, 103, 104, 105, 106, 107] (by decide +kernel) (by decide +kernel)
set_option maxRecDepth 20000 in
theorem gX5_firstUnsafe_X1_hasFault_n156 : GoodIn wsX5_firstUnsafe (wsX1_hasFault) := ggX5_firstUnsafe_X1_hasFault
set_option maxRecDepth 20000 in
theorem ggX5_firstUnsafe_X0_unsafe : GoodIn wsX5_firstUnsafe wsX0_unsafe := goodIn_r _ [15, 16, 17, 18, 19, 20, 21, 22, 23, 24, 25, 13, 26, 27, 28, 29, 30, 31, 32, 33, 34, 35, 36, 37, 4, 38, 39, 40, 41, 42, 43, 44, 45, 46, 47, 48, 49, 50, 51, 52, 53, 54, 55, 56, 57, 58, 59, 60, 61, 62, 63, 64, 65, 66, 67, 68, 69, 70, 71, 72, 73, 74, 75, 76, 77, 78, 79, 80, 81, 82, 83, 84, 85, 108, 109, 110, 111, 112, 113, 98, 99, 100, 101, 102, 103, 104, 105, 106, 107] (by decide +kernel) (by decide +kernel)
set_option maxRecDepth 20000 in
theorem gX5_firstUnsafe_X0_unsafe_n173 : GoodIn wsX5_firstUnsafe (wsX0_unsafe) := ggX5_firstUnsafe_X0_unsafe
set_option maxRecDepth 20000 in
theorem ggX5_firstUnsafe_X5_least : GoodIn wsX5_firstUnsafe wsX5_least := goodIn_r _ [89, 90, 91, 88, 92] (by decide +kernel) (by decide +kernel)
set_option maxRecDepth 20000 in
theorem gX5_firstUnsafe_X5_least : GoodIn wsX5_firstUnsafe (va_wsS RX5 170 yX5_least wsX5_least) := goodIn_app (goodIn_of _ (by decide +kernel)) ggX5_firstUnsafe_X5_least
theorem dX5_firstUnsafe_0 : decode cX5_firstUnsafe 0 = .ok (.aload_n 0, 1) := by decide +kernel
theorem dX5_firstUnsafe_1 : decode cX5_firstUnsafe 1 = .ok (.getfield 28, 3) := by decide +kernel
theorem dX5_firstUnsafe_4 : decode cX5_firstUnsafe 4 = .ok (.iload_n 1, 1) := by decide +kernel
theorem dX5_firstUnsafe_5 : decode cX5_firstUnsafe 5 = .ok (.invokevirtual 156, 3) := by decide +kernel
theorem dX5_firstUnsafe_8 : decode cX5_firstUnsafe 8 = .ok (.ifCond .ne 6, 3) := by decide +kernel
theorem dX5_firstUnsafe_11 : decode cX5_firstUnsafe 11 = .ok (.bipush (-101), 2) := by decide +kernel
theorem dX5_firstUnsafe_13 : decode cX5_firstUnsafe 13 = .ok (.ireturn, 1) := by decide +kernel
theorem dX5_firstUnsafe_14 : decode cX5_firstUnsafe 14 = .ok (.aload_n 0, 1) := by decide +kernel
theorem dX5_firstUnsafe_15 : decode cX5_firstUnsafe 15 = .ok (.getfield 44, 3) := by decide +kernel
theorem dX5_firstUnsafe_18 : decode cX5_firstUnsafe 18 = .ok (.iload_n 1, 1) := by decide +kernel
theorem dX5_firstUnsafe_19 : decode cX5_firstUnsafe 19 = .ok (.invokevirtual 173, 3) := by decide +kernel
theorem dX5_firstUnsafe_22 : decode cX5_firstUnsafe 22 = .ok (.invokestatic 170, 3) := by decide +kernel
theorem dX5_firstUnsafe_25 : decode cX5_firstUnsafe 25 = .ok (.ireturn, 1) := by decide +kernel
set_option maxRecDepth 20000 in
theorem ggX5_testableFaults_X1_faults : GoodIn wsX5_testableFaults wsX1_faults := goodIn_r _ [6, 7, 82, 83, 84, 85, 86, 87, 88, 89, 90, 91] (by decide +kernel) (by decide +kernel)
set_option maxRecDepth 20000 in
theorem gX5_testableFaults_X1_faults_n176 : GoodIn wsX5_testableFaults (wsX1_faults) := ggX5_testableFaults_X1_faults
set_option maxRecDepth 20000 in
theorem ggX5_testableFaults_X0_exposing : GoodIn wsX5_testableFaults wsX0_exposing := goodIn_r _ [11, 12, 13, 14, 15, 16, 9, 17, 18, 19, 20, 21, 22, 23, 24, 25, 26, 27, 28, 4, 29, 30, 31, 32, 33, 34, 35, 36, 37, 38, 39, 40, 41, 42, 43, 44, 45, 46, 47, 48, 49, 50, 51, 52, 53, 54, 55, 56, 57, 58, 59, 60, 61, 62, 63, 64, 65, 66, 67, 68, 69, 70, 71, 72, 73, 74, 75, 76, 92, 93, 94, 95, 96, 97, 82, 83, 84, 85, 86, 87, 88, 89, 90, 91] (by decide +kernel) (by decide +kernel)
set_option maxRecDepth 20000 in
theorem gX5_testableFaults_X0_exposing_n166 : GoodIn wsX5_testableFaults (wsX0_exposing) := ggX5_testableFaults_X0_exposing
theorem dX5_testableFaults_0 : decode cX5_testableFaults 0 = .ok (.iconst 0, 1) := by decide +kernel
theorem dX5_testableFaults_1 : decode cX5_testableFaults 1 = .ok (.istore_n 1, 1) := by decide +kernel
theorem dX5_testableFaults_2 : decode cX5_testableFaults 2 = .ok (.iconst 0, 1) := by decide +kernel
theorem dX5_testableFaults_3 : decode cX5_testableFaults 3 = .ok (.istore_n 2, 1) := by decide +kernel
theorem dX5_testableFaults_4 : decode cX5_testableFaults 4 = .ok (.iload_n 2, 1) := by decide +kernel
theorem dX5_testableFaults_5 : decode cX5_testableFaults 5 = .ok (.aload_n 0, 1) := by decide +kernel
theorem dX5_testableFaults_6 : decode cX5_testableFaults 6 = .ok (.getfield 28, 3) := by decide +kernel
theorem dX5_testableFaults_9 : decode cX5_testableFaults 9 = .ok (.invokevirtual 176, 3) := by decide +kernel
theorem dX5_testableFaults_12 : decode cX5_testableFaults 12 = .ok (.if_icmp .ge 25, 3) := by decide +kernel
theorem dX5_testableFaults_15 : decode cX5_testableFaults 15 = .ok (.aload_n 0, 1) := by decide +kernel
theorem dX5_testableFaults_16 : decode cX5_testableFaults 16 = .ok (.getfield 44, 3) := by decide +kernel
theorem dX5_testableFaults_19 : decode cX5_testableFaults 19 = .ok (.iload_n 2, 1) := by decide +kernel
theorem dX5_testableFaults_20 : decode cX5_testableFaults 20 = .ok (.invokevirtual 166, 3) := by decide +kernel
theorem dX5_testableFaults_23 : decode cX5_testableFaults 23 = .ok (.lconst 0, 1) := by decide +kernel
theorem dX5_testableFaults_24 : decode cX5_testableFaults 24 = .ok (.lcmp, 1) := by decide +kernel
theorem dX5_testableFaults_25 : decode cX5_testableFaults 25 = .ok (.ifCond .eq 6, 3) := by decide +kernel
theorem dX5_testableFaults_28 : decode cX5_testableFaults 28 = .ok (.iinc 1 1, 3) := by decide +kernel
theorem dX5_testableFaults_31 : decode cX5_testableFaults 31 = .ok (.iinc 2 1, 3) := by decide +kernel
theorem dX5_testableFaults_34 : decode cX5_testableFaults 34 = .ok (.goto (-30), 3) := by decide +kernel
theorem dX5_testableFaults_37 : decode cX5_testableFaults 37 = .ok (.iload_n 1, 1) := by decide +kernel
theorem dX5_testableFaults_38 : decode cX5_testableFaults 38 = .ok (.ireturn, 1) := by decide +kernel
set_option maxRecDepth 20000 in
theorem ggX5_secureFaults_X1_faults : GoodIn wsX5_secureFaults wsX1_faults := goodIn_r _ [6, 7, 87, 88, 89, 90, 91, 92, 93, 94, 95, 96] (by decide +kernel) (by decide +kernel)
set_option maxRecDepth 20000 in
theorem gX5_secureFaults_X1_faults_n176 : GoodIn wsX5_secureFaults (wsX1_faults) := ggX5_secureFaults_X1_faults
set_option maxRecDepth 20000 in
theorem ggX5_secureFaults_X0_unsafe : GoodIn wsX5_secureFaults wsX0_unsafe := goodIn_r _ [11, 12, 13, 14, 15, 16, 17, 18, 19, 20, 21, 9, 22, 23, 24, 25, 26, 27, 28, 29, 30, 31, 32, 33, 4, 34, 35, 36, 37, 38, 39, 40, 41, 42, 43, 44, 45, 46, 47, 48, 49, 50, 51, 52, 53, 54, 55, 56, 57, 58, 59, 60, 61, 62, 63, 64, 65, 66, 67, 68, 69, 70, 71, 72, 73, 74, 75, 76, 77, 78, 79, 80, 81, 97, 98, 99, 100, 101, 102, 87, 88, 89, 90, 91, 92, 93, 94, 95, 96] (by decide +kernel) (by decide +kernel)
set_option maxRecDepth 20000 in
theorem gX5_secureFaults_X0_unsafe_n173 : GoodIn wsX5_secureFaults (wsX0_unsafe) := ggX5_secureFaults_X0_unsafe
theorem dX5_secureFaults_0 : decode cX5_secureFaults 0 = .ok (.iconst 0, 1) := by decide +kernel
theorem dX5_secureFaults_1 : decode cX5_secureFaults 1 = .ok (.istore_n 1, 1) := by decide +kernel
theorem dX5_secureFaults_2 : decode cX5_secureFaults 2 = .ok (.iconst 0, 1) := by decide +kernel
theorem dX5_secureFaults_3 : decode cX5_secureFaults 3 = .ok (.istore_n 2, 1) := by decide +kernel
theorem dX5_secureFaults_4 : decode cX5_secureFaults 4 = .ok (.iload_n 2, 1) := by decide +kernel
theorem dX5_secureFaults_5 : decode cX5_secureFaults 5 = .ok (.aload_n 0, 1) := by decide +kernel
theorem dX5_secureFaults_6 : decode cX5_secureFaults 6 = .ok (.getfield 28, 3) := by decide +kernel
theorem dX5_secureFaults_9 : decode cX5_secureFaults 9 = .ok (.invokevirtual 176, 3) := by decide +kernel
theorem dX5_secureFaults_12 : decode cX5_secureFaults 12 = .ok (.if_icmp .ge 25, 3) := by decide +kernel
theorem dX5_secureFaults_15 : decode cX5_secureFaults 15 = .ok (.aload_n 0, 1) := by decide +kernel
theorem dX5_secureFaults_16 : decode cX5_secureFaults 16 = .ok (.getfield 44, 3) := by decide +kernel
theorem dX5_secureFaults_19 : decode cX5_secureFaults 19 = .ok (.iload_n 2, 1) := by decide +kernel
theorem dX5_secureFaults_20 : decode cX5_secureFaults 20 = .ok (.invokevirtual 173, 3) := by decide +kernel
theorem dX5_secureFaults_23 : decode cX5_secureFaults 23 = .ok (.lconst 0, 1) := by decide +kernel
theorem dX5_secureFaults_24 : decode cX5_secureFaults 24 = .ok (.lcmp, 1) := by decide +kernel
theorem dX5_secureFaults_25 : decode cX5_secureFaults 25 = .ok (.ifCond .ne 6, 3) := by decide +kernel
theorem dX5_secureFaults_28 : decode cX5_secureFaults 28 = .ok (.iinc 1 1, 3) := by decide +kernel
theorem dX5_secureFaults_31 : decode cX5_secureFaults 31 = .ok (.iinc 2 1, 3) := by decide +kernel
theorem dX5_secureFaults_34 : decode cX5_secureFaults 34 = .ok (.goto (-30), 3) := by decide +kernel
theorem dX5_secureFaults_37 : decode cX5_secureFaults 37 = .ok (.iload_n 1, 1) := by decide +kernel
theorem dX5_secureFaults_38 : decode cX5_secureFaults 38 = .ok (.ireturn, 1) := by decide +kernel
set_option maxRecDepth 20000 in
theorem ggX5_isCodeDisjoint_X0_isDisjoint : GoodIn wsX5_isCodeDisjoint wsX0_isDisjoint := goodIn_r _ [5, 6, 7, 8, 9, 3, 10, 11, 12, 13, 14, 15, 16, 17, 18, 19, 20, 21, 22, 23, 24, 25, 26, 27, 28, 29, 30, 31, 32, 33, 34, 35, 36, 37, 38, 39, 40, 41, 42, 43, 44, 45, 46, 47, 48, 49, 50, 51, 52, 53, 54, 55, 56, 57, 58, 59, 60, 61, 62, 63, 64, 65, 66, 67, 68, 69, 70, 71, 72, 73, 74, 75, 76, 82, 83, 84, 85, 86, 87, 88, 89, 90, 91, 92, 93, 94, 95, 96, 97] (by decide +kernel) (by decide +kernel)
set_option maxRecDepth 20000 in
theorem gX5_isCodeDisjoint_X0_isDisjoint_n179 : GoodIn wsX5_isCodeDisjoint (wsX0_isDisjoint) := ggX5_isCodeDisjoint_X0_isDisjoint
theorem dX5_isCodeDisjoint_0 : decode cX5_isCodeDisjoint 0 = .ok (.aload_n 0, 1) := by decide +kernel
theorem dX5_isCodeDisjoint_1 : decode cX5_isCodeDisjoint 1 = .ok (.getfield 44, 3) := by decide +kernel
theorem dX5_isCodeDisjoint_4 : decode cX5_isCodeDisjoint 4 = .ok (.invokevirtual 179, 3) := by decide +kernel
theorem dX5_isCodeDisjoint_7 : decode cX5_isCodeDisjoint 7 = .ok (.ifCond .eq 7, 3) := by decide +kernel
theorem dX5_isCodeDisjoint_10 : decode cX5_isCodeDisjoint 10 = .ok (.iconst 1, 1) := by decide +kernel
theorem dX5_isCodeDisjoint_11 : decode cX5_isCodeDisjoint 11 = .ok (.goto 4, 3) := by decide +kernel
theorem dX5_isCodeDisjoint_14 : decode cX5_isCodeDisjoint 14 = .ok (.iconst 0, 1) := by decide +kernel
theorem dX5_isCodeDisjoint_15 : decode cX5_isCodeDisjoint 15 = .ok (.ireturn, 1) := by decide +kernel
set_option maxRecDepth 20000 in
theorem ggX5_isUnordered_X0_normalOutputs : GoodIn wsX5_isUnordered wsX0_normalOutputs := goodIn_r _ [5, 6, 7, 8, 9, 3, 10, 11, 12, 13, 14, 15, 16, 17, 18, 19, 20, 21, 22, 23, 24, 25, 26, 27, 28, 29, 30, 31, 32, 33, 34, 35, 36, 37, 38, 39, 40, 41, 42, 43, 44, 45, 46, 47, 48, 49, 62, 63, 64, 65, 66, 67, 68, 69, 70, 71, 72, 73, 74, 75, 76, 77] (by decide +kernel) (by decide +kernel)
set_option maxRecDepth 20000 in
theorem gX5_isUnordered_X0_normalOutputs_n183 : GoodIn wsX5_isUnordered (wsX0_normalOutputs) := ggX5_isUnordered_X0_normalOutputs
set_option maxRecDepth 20000 in
theorem ggX5_isUnordered_X5_hasCover : GoodIn wsX5_isUnordered wsX5_hasCover := goodIn_r _ [52, 53, 43, 44, 45, 54, 55, 56] (by decide +kernel) (by decide +kernel)
set_option maxRecDepth 20000 in
theorem gX5_isUnordered_X5_hasCover : GoodIn wsX5_isUnordered (va_wsS RX5 187 yX5_hasCover wsX5_hasCover) := goodIn_app (goodIn_of _ (by decide +kernel)) ggX5_isUnordered_X5_hasCover
theorem dX5_isUnordered_0 : decode cX5_isUnordered 0 = .ok (.aload_n 0, 1) := by decide +kernel
theorem dX5_isUnordered_1 : decode cX5_isUnordered 1 = .ok (.getfield 44, 3) := by decide +kernel
theorem dX5_isUnordered_4 : decode cX5_isUnordered 4 = .ok (.invokevirtual 183, 3) := by decide +kernel
theorem dX5_isUnordered_7 : decode cX5_isUnordered 7 = .ok (.invokestatic 187, 3) := by decide +kernel
theorem dX5_isUnordered_10 : decode cX5_isUnordered 10 = .ok (.ifCond .eq 7, 3) := by decide +kernel
theorem dX5_isUnordered_13 : decode cX5_isUnordered 13 = .ok (.iconst 0, 1) := by decide +kernel
theorem dX5_isUnordered_14 : decode cX5_isUnordered 14 = .ok (.goto 4, 3) := by decide +kernel
theorem dX5_isUnordered_17 : decode cX5_isUnordered 17 = .ok (.iconst 1, 1) := by decide +kernel
theorem dX5_isUnordered_18 : decode cX5_isUnordered 18 = .ok (.ireturn, 1) := by decide +kernel
set_option maxRecDepth 20000 in
theorem ggX5_greedyTest_X0_greedyWord : GoodIn wsX5_greedyTest wsX0_greedyWord := goodIn_r _ [5, 6, 7, 8, 9, 10, 11, 3, 12, 13, 14, 15, 16, 17, 18, 19, 20, 21, 22, 23, 24, 25, 26, 27, 28, 29, 30, 31, 32, 33, 34, 35, 36, 37, 38, 39, 40, 41, 42, 43, 44, 45, 46, 47, 48, 49, 50, 51, 52, 53, 54, 55, 56, 57, 58, 59, 60, 61, 62, 63, 64, 65, 66, 67, 68, 69, 70, 71, 72, 73, 74, 75, 76, 77, 78, 79, 80, 81, 82, 83, 84, 85, 86, 87, 88, 89, 90, 91, 92, 93, 94, 95, 96, 97, 98, 99, 100, 101, 102, 108, 109, 110, 111, 112, 113, 114, 115, 116, 117, 118, 119, 120, 121, 122, 123] (by decide +kernel) (by decide +kernel)
set_option maxRecDepth 20000 in
theorem gX5_greedyTest_X0_greedyWord_n191 : GoodIn wsX5_greedyTest (wsX0_greedyWord) := ggX5_greedyTest_X0_greedyWord
theorem dX5_greedyTest_0 : decode cX5_greedyTest 0 = .ok (.iload_n 1, 1) := by decide +kernel
theorem dX5_greedyTest_1 : decode cX5_greedyTest 1 = .ok (.ifCond .ge 6, 3) := by decide +kernel
theorem dX5_greedyTest_4 : decode cX5_greedyTest 4 = .ok (.bipush (-101), 2) := by decide +kernel
theorem dX5_greedyTest_6 : decode cX5_greedyTest 6 = .ok (.ireturn, 1) := by decide +kernel
theorem dX5_greedyTest_7 : decode cX5_greedyTest 7 = .ok (.aload_n 0, 1) := by decide +kernel
theorem dX5_greedyTest_8 : decode cX5_greedyTest 8 = .ok (.getfield 44, 3) := by decide +kernel
theorem dX5_greedyTest_11 : decode cX5_greedyTest 11 = .ok (.iload_n 1, 1) := by decide +kernel
theorem dX5_greedyTest_12 : decode cX5_greedyTest 12 = .ok (.invokevirtual 191, 3) := by decide +kernel
theorem dX5_greedyTest_15 : decode cX5_greedyTest 15 = .ok (.ireturn, 1) := by decide +kernel
set_option maxRecDepth 20000 in
theorem ggX5_takeText_X4_read : GoodIn wsX5_takeText wsX4_read := goodIn_r _ [8, 9, 10, 11, 12, 13, 14, 15, 16, 6, 17, 18, 19, 20, 21, 22, 23, 24, 25, 26, 27, 28, 29, 30, 31, 32, 33, 34, 35, 36, 37, 38, 39, 40, 41, 42, 43, 44, 45, 46, 47, 48, 49, 50, 51, 52, 53, 54, 55, 56, 57, 58, 59, 60, 61, 62, 63, 64, 65, 66, 67, 68, 69, 70, 71, 72, 73, 74, 75, 76, 77, 78, 79, 80, 81, 82, 83, 84, 85, 86, 87, 88, 89, 90, 91, 92, 93, 110, 111, 112, 113, 114, 115, 116, 108, 109, 117, 118, 119, 120, 121, 122, 123, 124, 125, 126] (by decide +kernel) (by decide +kernel)
set_option maxRecDepth 20000 in
theorem gX5_takeText_X4_read_n73 : GoodIn wsX5_takeText (wsX4_read) := ggX5_takeText_X4_read
set_option maxRecDepth 20000 in
theorem ggX5_takeText_X1_copyFrom : GoodIn wsX5_takeText wsX1_copyFrom := goodIn_r _ [96, 52, 97, 98, 99, 100, 73, 74, 82, 48, 49, 50, 51, 101, 102, 117, 118, 119, 120, 121, 122, 123, 124, 125, 126] (by decide +kernel) (by decide +kernel)
set_option maxRecDepth 20000 in
theorem gX5_takeText_X1_copyFrom_n197 : GoodIn wsX5_takeText (wsX1_copyFrom) := ggX5_takeText_X1_copyFrom
theorem dX5_takeText_0 : decode cX5_takeText 0 = .ok (.aload_n 0, 1) := by decide +kernel
theorem dX5_takeText_1 : decode cX5_takeText 1 = .ok (.getfield 21, 3) := by decide +kernel
theorem dX5_takeText_4 : decode cX5_takeText 4 = .ok (.invokevirtual 73, 3) := by decide +kernel
theorem dX5_takeText_7 : decode cX5_takeText 7 = .ok (.aload_n 0, 1) := by decide +kernel
theorem dX5_takeText_8 : decode cX5_takeText 8 = .ok (.getfield 12, 3) := by decide +kernel
theorem dX5_takeText_11 : decode cX5_takeText 11 = .ok (.getfield 71, 3) := by decide +kernel
theorem dX5_takeText_14 : decode cX5_takeText 14 = .ok (.ifCond .eq 15, 3) := by decide +kernel
theorem dX5_takeText_17 : decode cX5_takeText 17 = .ok (.aload_n 0, 1) := by decide +kernel
theorem dX5_takeText_18 : decode cX5_takeText 18 = .ok (.getfield 21, 3) := by decide +kernel
theorem dX5_takeText_21 : decode cX5_takeText 21 = .ok (.getfield 79, 3) := by decide +kernel
theorem dX5_takeText_24 : decode cX5_takeText 24 = .ok (.bipush (-104), 2) := by decide +kernel
theorem dX5_takeText_26 : decode cX5_takeText 26 = .ok (.if_icmp .eq 6, 3) := by decide +kernel
theorem dX5_takeText_29 : decode cX5_takeText 29 = .ok (.bipush (-102), 2) := by decide +kernel
theorem dX5_takeText_31 : decode cX5_takeText 31 = .ok (.ireturn, 1) := by decide +kernel
theorem dX5_takeText_32 : decode cX5_takeText 32 = .ok (.aload_n 0, 1) := by decide +kernel
theorem dX5_takeText_33 : decode cX5_takeText 33 = .ok (.getfield 21, 3) := by decide +kernel
theorem dX5_takeText_36 : decode cX5_takeText 36 = .ok (.getfield 194, 3) := by decide +kernel
theorem dX5_takeText_39 : decode cX5_takeText 39 = .ok (.astore_n 1, 1) := by decide +kernel
theorem dX5_takeText_40 : decode cX5_takeText 40 = .ok (.aload_n 1, 1) := by decide +kernel
theorem dX5_takeText_41 : decode cX5_takeText 41 = .ok (.aload_n 0, 1) := by decide +kernel
theorem dX5_takeText_42 : decode cX5_takeText 42 = .ok (.getfield 28, 3) := by decide +kernel
theorem dX5_takeText_45 : decode cX5_takeText 45 = .ok (.getfield 48, 3) := by decide +kernel
theorem dX5_takeText_48 : decode cX5_takeText 48 = .ok (.putfield 48, 3) := by decide +kernel
theorem dX5_takeText_51 : decode cX5_takeText 51 = .ok (.aload_n 1, 1) := by decide +kernel
theorem dX5_takeText_52 : decode cX5_takeText 52 = .ok (.aload_n 0, 1) := by decide +kernel
theorem dX5_takeText_53 : decode cX5_takeText 53 = .ok (.getfield 28, 3) := by decide +kernel
theorem dX5_takeText_56 : decode cX5_takeText 56 = .ok (.getfield 131, 3) := by decide +kernel
theorem dX5_takeText_59 : decode cX5_takeText 59 = .ok (.putfield 131, 3) := by decide +kernel
theorem dX5_takeText_62 : decode cX5_takeText 62 = .ok (.aload_n 0, 1) := by decide +kernel
theorem dX5_takeText_63 : decode cX5_takeText 63 = .ok (.getfield 28, 3) := by decide +kernel
theorem dX5_takeText_66 : decode cX5_takeText 66 = .ok (.aload_n 1, 1) := by decide +kernel
theorem dX5_takeText_67 : decode cX5_takeText 67 = .ok (.invokevirtual 197, 3) := by decide +kernel
theorem dX5_takeText_70 : decode cX5_takeText 70 = .ok (.aload_n 0, 1) := by decide +kernel
theorem dX5_takeText_71 : decode cX5_takeText 71 = .ok (.getfield 35, 3) := by decide +kernel
theorem dX5_takeText_74 : decode cX5_takeText 74 = .ok (.iconst 0, 1) := by decide +kernel
theorem dX5_takeText_75 : decode cX5_takeText 75 = .ok (.putfield 134, 3) := by decide +kernel
theorem dX5_takeText_78 : decode cX5_takeText 78 = .ok (.aload_n 0, 1) := by decide +kernel
theorem dX5_takeText_79 : decode cX5_takeText 79 = .ok (.getfield 28, 3) := by decide +kernel
theorem dX5_takeText_82 : decode cX5_takeText 82 = .ok (.getfield 99, 3) := by decide +kernel
theorem dX5_takeText_85 : decode cX5_takeText 85 = .ok (.ireturn, 1) := by decide +kernel
theorem dX5_operandsOfType_0 : decode cX5_operandsOfType 0 = .ok (.iload_n 0, 1) := by decide +kernel
theorem dX5_operandsOfType_1 : decode cX5_operandsOfType 1 = .ok (.bipush 6, 2) := by decide +kernel
theorem dX5_operandsOfType_3 : decode cX5_operandsOfType 3 = .ok (.if_icmp .ne 5, 3) := by decide +kernel
theorem dX5_operandsOfType_6 : decode cX5_operandsOfType 6 = .ok (.iconst 0, 1) := by decide +kernel
theorem dX5_operandsOfType_7 : decode cX5_operandsOfType 7 = .ok (.ireturn, 1) := by decide +kernel
theorem dX5_operandsOfType_8 : decode cX5_operandsOfType 8 = .ok (.iload_n 0, 1) := by decide +kernel
theorem dX5_operandsOfType_9 : decode cX5_operandsOfType 9 = .ok (.iconst 5, 1) := by decide +kernel
theorem dX5_operandsOfType_10 : decode cX5_operandsOfType 10 = .ok (.if_icmp .ne 7, 3) := by decide +kernel
theorem dX5_operandsOfType_13 : decode cX5_operandsOfType 13 = .ok (.iconst 1, 1) := by decide +kernel
theorem dX5_operandsOfType_14 : decode cX5_operandsOfType 14 = .ok (.goto 4, 3) := by decide +kernel
theorem dX5_operandsOfType_17 : decode cX5_operandsOfType 17 = .ok (.iconst 2, 1) := by decide +kernel
theorem dX5_operandsOfType_18 : decode cX5_operandsOfType 18 = .ok (.ireturn, 1) := by decide +kernel
theorem dX5_bit_0 : decode cX5_bit 0 = .ok (.lload_n 0, 1) := by decide +kernel
theorem dX5_bit_1 : decode cX5_bit 1 = .ok (.iload_n 2, 1) := by decide +kernel
theorem dX5_bit_2 : decode cX5_bit 2 = .ok (.lushr, 1) := by decide +kernel
theorem dX5_bit_3 : decode cX5_bit 3 = .ok (.l2i, 1) := by decide +kernel
theorem dX5_bit_4 : decode cX5_bit 4 = .ok (.iconst 1, 1) := by decide +kernel
theorem dX5_bit_5 : decode cX5_bit 5 = .ok (.iand, 1) := by decide +kernel
theorem dX5_bit_6 : decode cX5_bit 6 = .ok (.ireturn, 1) := by decide +kernel
set_option maxRecDepth 20000 in
theorem ggX5_least_X5_bit : GoodIn wsX5_least wsX5_bit := goodIn_r _ [4] (by decide +kernel) (by decide +kernel)
set_option maxRecDepth 20000 in
theorem gX5_least_X5_bit : GoodIn wsX5_least (va_wsS RX5 152 yX5_bit wsX5_bit) := goodIn_app (goodIn_of _ (by decide +kernel)) ggX5_least_X5_bit
theorem dX5_least_0 : decode cX5_least 0 = .ok (.iconst 0, 1) := by decide +kernel
theorem dX5_least_1 : decode cX5_least 1 = .ok (.istore_n 2, 1) := by decide +kernel
theorem dX5_least_2 : decode cX5_least 2 = .ok (.iload_n 2, 1) := by decide +kernel
theorem dX5_least_3 : decode cX5_least 3 = .ok (.bipush 64, 2) := by decide +kernel
theorem dX5_least_5 : decode cX5_least 5 = .ok (.if_icmp .ge 20, 3) := by decide +kernel
theorem dX5_least_8 : decode cX5_least 8 = .ok (.lload_n 0, 1) := by decide +kernel
theorem dX5_least_9 : decode cX5_least 9 = .ok (.iload_n 2, 1) := by decide +kernel
theorem dX5_least_10 : decode cX5_least 10 = .ok (.invokestatic 152, 3) := by decide +kernel
theorem dX5_least_13 : decode cX5_least 13 = .ok (.iconst 1, 1) := by decide +kernel
theorem dX5_least_14 : decode cX5_least 14 = .ok (.if_icmp .ne 5, 3) := by decide +kernel
theorem dX5_least_17 : decode cX5_least 17 = .ok (.iload_n 2, 1) := by decide +kernel
theorem dX5_least_18 : decode cX5_least 18 = .ok (.ireturn, 1) := by decide +kernel
theorem dX5_least_19 : decode cX5_least 19 = .ok (.iinc 2 1, 3) := by decide +kernel
theorem dX5_least_22 : decode cX5_least 22 = .ok (.goto (-20), 3) := by decide +kernel
theorem dX5_least_25 : decode cX5_least 25 = .ok (.bipush (-104), 2) := by decide +kernel
theorem dX5_least_27 : decode cX5_least 27 = .ok (.ireturn, 1) := by decide +kernel
set_option maxRecDepth 20000 in
theorem ggX5_hasCover_X5_bit : GoodIn wsX5_hasCover wsX5_bit := goodIn_r _ [4] (by decide +kernel) (by decide +kernel)
set_option maxRecDepth 20000 in
theorem gX5_hasCover_X5_bit : GoodIn wsX5_hasCover (va_wsS RX5 152 yX5_bit wsX5_bit) := goodIn_app (goodIn_of _ (by decide +kernel)) ggX5_hasCover_X5_bit
set_option maxRecDepth 20000 in
theorem ggX5_hasCover_X5_coversOther : GoodIn wsX5_hasCover wsX5_coversOther := goodIn_r _ [7, 1, 2, 3, 4] (by decide +kernel) (by decide +kernel)
set_option maxRecDepth 20000 in
theorem gX5_hasCover_X5_coversOther : GoodIn wsX5_hasCover (va_wsS RX5 200 yX5_coversOther wsX5_coversOther) := goodIn_app (goodIn_of _ (by decide +kernel)) ggX5_hasCover_X5_coversOther
theorem dX5_hasCover_0 : decode cX5_hasCover 0 = .ok (.iconst 0, 1) := by decide +kernel
theorem dX5_hasCover_1 : decode cX5_hasCover 1 = .ok (.istore_n 2, 1) := by decide +kernel
theorem dX5_hasCover_2 : decode cX5_hasCover 2 = .ok (.iload_n 2, 1) := by decide +kernel
theorem dX5_hasCover_3 : decode cX5_hasCover 3 = .ok (.bipush 64, 2) := by decide +kernel
theorem dX5_hasCover_5 : decode cX5_hasCover 5 = .ok (.if_icmp .ge 28, 3) := by decide +kernel
theorem dX5_hasCover_8 : decode cX5_hasCover 8 = .ok (.lload_n 0, 1) := by decide +kernel
theorem dX5_hasCover_9 : decode cX5_hasCover 9 = .ok (.iload_n 2, 1) := by decide +kernel
theorem dX5_hasCover_10 : decode cX5_hasCover 10 = .ok (.invokestatic 152, 3) := by decide +kernel
theorem dX5_hasCover_13 : decode cX5_hasCover 13 = .ok (.iconst 1, 1) := by decide +kernel
theorem dX5_hasCover_14 : decode cX5_hasCover 14 = .ok (.if_icmp .ne 13, 3) := by decide +kernel
theorem dX5_hasCover_17 : decode cX5_hasCover 17 = .ok (.iload_n 2, 1) := by decide +kernel
theorem dX5_hasCover_18 : decode cX5_hasCover 18 = .ok (.lload_n 0, 1) := by decide +kernel
theorem dX5_hasCover_19 : decode cX5_hasCover 19 = .ok (.invokestatic 200, 3) := by decide +kernel
theorem dX5_hasCover_22 : decode cX5_hasCover 22 = .ok (.ifCond .eq 5, 3) := by decide +kernel
theorem dX5_hasCover_25 : decode cX5_hasCover 25 = .ok (.iconst 1, 1) := by decide +kernel
theorem dX5_hasCover_26 : decode cX5_hasCover 26 = .ok (.ireturn, 1) := by decide +kernel
theorem dX5_hasCover_27 : decode cX5_hasCover 27 = .ok (.iinc 2 1, 3) := by decide +kernel
theorem dX5_hasCover_30 : decode cX5_hasCover 30 = .ok (.goto (-28), 3) := by decide +kernel
theorem dX5_hasCover_33 : decode cX5_hasCover 33 = .ok (.iconst 0, 1) := by decide +kernel
theorem dX5_hasCover_34 : decode cX5_hasCover 34 = .ok (.ireturn, 1) := by decide +kernel
set_option maxRecDepth 20000 in
theorem ggX5_coversOther_X5_bit : GoodIn wsX5_coversOther wsX5_bit := goodIn_r _ [4] (by decide +kernel) (by decide +kernel)
set_option maxRecDepth 20000 in
theorem gX5_coversOther_X5_bit : GoodIn wsX5_coversOther (va_wsS RX5 152 yX5_bit wsX5_bit) := goodIn_app (goodIn_of _ (by decide +kernel)) ggX5_coversOther_X5_bit
theorem dX5_coversOther_0 : decode cX5_coversOther 0 = .ok (.iconst 0, 1) := by decide +kernel
theorem dX5_coversOther_1 : decode cX5_coversOther 1 = .ok (.istore_n 3, 1) := by decide +kernel
theorem dX5_coversOther_2 : decode cX5_coversOther 2 = .ok (.iload_n 3, 1) := by decide +kernel
theorem dX5_coversOther_3 : decode cX5_coversOther 3 = .ok (.iload_n 0, 1) := by decide +kernel
theorem dX5_coversOther_4 : decode cX5_coversOther 4 = .ok (.if_icmp .ge 28, 3) := by decide +kernel
theorem dX5_coversOther_7 : decode cX5_coversOther 7 = .ok (.lload_n 1, 1) := by decide +kernel
theorem dX5_coversOther_8 : decode cX5_coversOther 8 = .ok (.iload_n 3, 1) := by decide +kernel
theorem dX5_coversOther_9 : decode cX5_coversOther 9 = .ok (.invokestatic 152, 3) := by decide +kernel
theorem dX5_coversOther_12 : decode cX5_coversOther 12 = .ok (.iconst 1, 1) := by decide +kernel
theorem dX5_coversOther_13 : decode cX5_coversOther 13 = .ok (.if_icmp .ne 13, 3) := by decide +kernel
theorem dX5_coversOther_16 : decode cX5_coversOther 16 = .ok (.iload_n 3, 1) := by decide +kernel
theorem dX5_coversOther_17 : decode cX5_coversOther 17 = .ok (.iload_n 0, 1) := by decide +kernel
theorem dX5_coversOther_18 : decode cX5_coversOther 18 = .ok (.iconst (-1), 1) := by decide +kernel
theorem dX5_coversOther_19 : decode cX5_coversOther 19 = .ok (.ixor, 1) := by decide +kernel
theorem dX5_coversOther_20 : decode cX5_coversOther 20 = .ok (.iand, 1) := by decide +kernel
theorem dX5_coversOther_21 : decode cX5_coversOther 21 = .ok (.ifCond .ne 5, 3) := by decide +kernel
theorem dX5_coversOther_24 : decode cX5_coversOther 24 = .ok (.iconst 1, 1) := by decide +kernel
theorem dX5_coversOther_25 : decode cX5_coversOther 25 = .ok (.ireturn, 1) := by decide +kernel
theorem dX5_coversOther_26 : decode cX5_coversOther 26 = .ok (.iinc 3 1, 3) := by decide +kernel
theorem dX5_coversOther_29 : decode cX5_coversOther 29 = .ok (.goto (-27), 3) := by decide +kernel
theorem dX5_coversOther_32 : decode cX5_coversOther 32 = .ok (.iconst 0, 1) := by decide +kernel
theorem dX5_coversOther_33 : decode cX5_coversOther 33 = .ok (.ireturn, 1) := by decide +kernel

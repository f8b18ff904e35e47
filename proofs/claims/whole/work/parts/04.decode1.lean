theorem dX1_init_0 : decode cX1_init 0 = .ok (.aload_n 0, 1) := by decide +kernel
theorem dX1_init_1 : decode cX1_init 1 = .ok (.invokespecial 1, 3) := by decide +kernel
theorem dX1_init_4 : decode cX1_init 4 = .ok (.aload_n 0, 1) := by decide +kernel
theorem dX1_init_5 : decode cX1_init 5 = .ok (.bipush 8, 2) := by decide +kernel
theorem dX1_init_7 : decode cX1_init 7 = .ok (.newarray .int, 2) := by decide +kernel
theorem dX1_init_9 : decode cX1_init 9 = .ok (.putfield 7, 3) := by decide +kernel
theorem dX1_init_12 : decode cX1_init 12 = .ok (.aload_n 0, 1) := by decide +kernel
theorem dX1_init_13 : decode cX1_init 13 = .ok (.bipush 8, 2) := by decide +kernel
theorem dX1_init_15 : decode cX1_init 15 = .ok (.newarray .int, 2) := by decide +kernel
theorem dX1_init_17 : decode cX1_init 17 = .ok (.putfield 13, 3) := by decide +kernel
theorem dX1_init_20 : decode cX1_init 20 = .ok (.aload_n 0, 1) := by decide +kernel
theorem dX1_init_21 : decode cX1_init 21 = .ok (.bipush 48, 2) := by decide +kernel
theorem dX1_init_23 : decode cX1_init 23 = .ok (.newarray .int, 2) := by decide +kernel
theorem dX1_init_25 : decode cX1_init 25 = .ok (.putfield 16, 3) := by decide +kernel
theorem dX1_init_28 : decode cX1_init 28 = .ok (.aload_n 0, 1) := by decide +kernel
theorem dX1_init_29 : decode cX1_init 29 = .ok (.bipush 48, 2) := by decide +kernel
theorem dX1_init_31 : decode cX1_init 31 = .ok (.newarray .int, 2) := by decide +kernel
theorem dX1_init_33 : decode cX1_init 33 = .ok (.putfield 19, 3) := by decide +kernel
theorem dX1_init_36 : decode cX1_init 36 = .ok (.aload_n 0, 1) := by decide +kernel
theorem dX1_init_37 : decode cX1_init 37 = .ok (.bipush 6, 2) := by decide +kernel
theorem dX1_init_39 : decode cX1_init 39 = .ok (.newarray .int, 2) := by decide +kernel
theorem dX1_init_41 : decode cX1_init 41 = .ok (.dup, 1) := by decide +kernel
theorem dX1_init_42 : decode cX1_init 42 = .ok (.iconst 0, 1) := by decide +kernel
theorem dX1_init_43 : decode cX1_init 43 = .ok (.iconst 1, 1) := by decide +kernel
theorem dX1_init_44 : decode cX1_init 44 = .ok (.iastore, 1) := by decide +kernel
theorem dX1_init_45 : decode cX1_init 45 = .ok (.dup, 1) := by decide +kernel
theorem dX1_init_46 : decode cX1_init 46 = .ok (.iconst 1, 1) := by decide +kernel
theorem dX1_init_47 : decode cX1_init 47 = .ok (.iconst 3, 1) := by decide +kernel
theorem dX1_init_48 : decode cX1_init 48 = .ok (.iastore, 1) := by decide +kernel
theorem dX1_init_49 : decode cX1_init 49 = .ok (.dup, 1) := by decide +kernel
theorem dX1_init_50 : decode cX1_init 50 = .ok (.iconst 2, 1) := by decide +kernel
theorem dX1_init_51 : decode cX1_init 51 = .ok (.iconst 4, 1) := by decide +kernel
theorem dX1_init_52 : decode cX1_init 52 = .ok (.iastore, 1) := by decide +kernel
theorem dX1_init_53 : decode cX1_init 53 = .ok (.dup, 1) := by decide +kernel
theorem dX1_init_54 : decode cX1_init 54 = .ok (.iconst 3, 1) := by decide +kernel
theorem dX1_init_55 : decode cX1_init 55 = .ok (.bipush 6, 2) := by decide +kernel
theorem dX1_init_57 : decode cX1_init 57 = .ok (.iastore, 1) := by decide +kernel
theorem dX1_init_58 : decode cX1_init 58 = .ok (.dup, 1) := by decide +kernel
theorem dX1_init_59 : decode cX1_init 59 = .ok (.iconst 4, 1) := by decide +kernel
theorem dX1_init_60 : decode cX1_init 60 = .ok (.iconst 2, 1) := by decide +kernel
theorem dX1_init_61 : decode cX1_init 61 = .ok (.iastore, 1) := by decide +kernel
theorem dX1_init_62 : decode cX1_init 62 = .ok (.dup, 1) := by decide +kernel
theorem dX1_init_63 : decode cX1_init 63 = .ok (.iconst 5, 1) := by decide +kernel
theorem dX1_init_64 : decode cX1_init 64 = .ok (.iconst 5, 1) := by decide +kernel
theorem dX1_init_65 : decode cX1_init 65 = .ok (.iastore, 1) := by decide +kernel
theorem dX1_init_66 : decode cX1_init 66 = .ok (.putfield 22, 3) := by decide +kernel
theorem dX1_init_69 : decode cX1_init 69 = .ok (.aload_n 0, 1) := by decide +kernel
theorem dX1_init_70 : decode cX1_init 70 = .ok (.iconst 0, 1) := by decide +kernel
theorem dX1_init_71 : decode cX1_init 71 = .ok (.putfield 25, 3) := by decide +kernel
theorem dX1_init_74 : decode cX1_init 74 = .ok (.aload_n 0, 1) := by decide +kernel
theorem dX1_init_75 : decode cX1_init 75 = .ok (.bipush 100, 2) := by decide +kernel
theorem dX1_init_77 : decode cX1_init 77 = .ok (.putfield 29, 3) := by decide +kernel
theorem dX1_init_80 : decode cX1_init 80 = .ok (.return_, 1) := by decide +kernel
theorem dX1_isIn_0 : decode cX1_isIn 0 = .ok (.iload_n 0, 1) := by decide +kernel
theorem dX1_isIn_1 : decode cX1_isIn 1 = .ok (.iload_n 1, 1) := by decide +kernel
theorem dX1_isIn_2 : decode cX1_isIn 2 = .ok (.if_icmp .lt 12, 3) := by decide +kernel
theorem dX1_isIn_5 : decode cX1_isIn 5 = .ok (.iload_n 0, 1) := by decide +kernel
theorem dX1_isIn_6 : decode cX1_isIn 6 = .ok (.iload_n 2, 1) := by decide +kernel
theorem dX1_isIn_7 : decode cX1_isIn 7 = .ok (.if_icmp .gt 7, 3) := by decide +kernel
theorem dX1_isIn_10 : decode cX1_isIn 10 = .ok (.iconst 1, 1) := by decide +kernel
theorem dX1_isIn_11 : decode cX1_isIn 11 = .ok (.goto 4, 3) := by decide +kernel
theorem dX1_isIn_14 : decode cX1_isIn 14 = .ok (.iconst 0, 1) := by decide +kernel
theorem dX1_isIn_15 : decode cX1_isIn 15 = .ok (.ireturn, 1) := by decide +kernel
set_option maxRecDepth 20000 in
theorem ggX1_isJumper_X1_isIn : GoodIn wsX1_isJumper wsX1_isIn := goodIn_r _ [5] (by decide +kernel) (by decide +kernel)
set_option maxRecDepth 20000 in
theorem gX1_isJumper_X1_isIn : GoodIn wsX1_isJumper (va_wsS RX1 35 yX1_isIn wsX1_isIn) := goodIn_app (goodIn_of _ (by decide +kernel)) ggX1_isJumper_X1_isIn
theorem dX1_isJumper_0 : decode cX1_isJumper 0 = .ok (.iload_n 1, 1) := by decide +kernel
theorem dX1_isJumper_1 : decode cX1_isJumper 1 = .ok (.iconst 0, 1) := by decide +kernel
theorem dX1_isJumper_2 : decode cX1_isJumper 2 = .ok (.aload_n 0, 1) := by decide +kernel
theorem dX1_isJumper_3 : decode cX1_isJumper 3 = .ok (.getfield 32, 3) := by decide +kernel
theorem dX1_isJumper_6 : decode cX1_isJumper 6 = .ok (.iconst 1, 1) := by decide +kernel
theorem dX1_isJumper_7 : decode cX1_isJumper 7 = .ok (.isub, 1) := by decide +kernel
theorem dX1_isJumper_8 : decode cX1_isJumper 8 = .ok (.invokestatic 35, 3) := by decide +kernel
theorem dX1_isJumper_11 : decode cX1_isJumper 11 = .ok (.ireturn, 1) := by decide +kernel
set_option maxRecDepth 20000 in
theorem ggX1_isRound_X1_isIn : GoodIn wsX1_isRound wsX1_isIn := goodIn_r _ [4] (by decide +kernel) (by decide +kernel)
set_option maxRecDepth 20000 in
theorem gX1_isRound_X1_isIn : GoodIn wsX1_isRound (va_wsS RX1 35 yX1_isIn wsX1_isIn) := goodIn_app (goodIn_of _ (by decide +kernel)) ggX1_isRound_X1_isIn
theorem dX1_isRound_0 : decode cX1_isRound 0 = .ok (.iload_n 0, 1) := by decide +kernel
theorem dX1_isRound_1 : decode cX1_isRound 1 = .ok (.iconst 0, 1) := by decide +kernel
theorem dX1_isRound_2 : decode cX1_isRound 2 = .ok (.iconst 5, 1) := by decide +kernel
theorem dX1_isRound_3 : decode cX1_isRound 3 = .ok (.invokestatic 35, 3) := by decide +kernel
theorem dX1_isRound_6 : decode cX1_isRound 6 = .ok (.ireturn, 1) := by decide +kernel
set_option maxRecDepth 20000 in
theorem ggX1_isCode_X1_isIn : GoodIn wsX1_isCode wsX1_isIn := goodIn_r _ [4] (by decide +kernel) (by decide +kernel)
set_option maxRecDepth 20000 in
theorem gX1_isCode_X1_isIn : GoodIn wsX1_isCode (va_wsS RX1 35 yX1_isIn wsX1_isIn) := goodIn_app (goodIn_of _ (by decide +kernel)) ggX1_isCode_X1_isIn
theorem dX1_isCode_0 : decode cX1_isCode 0 = .ok (.iload_n 0, 1) := by decide +kernel
theorem dX1_isCode_1 : decode cX1_isCode 1 = .ok (.ifCond .ne 14, 3) := by decide +kernel
theorem dX1_isCode_4 : decode cX1_isCode 4 = .ok (.iload_n 1, 1) := by decide +kernel
theorem dX1_isCode_5 : decode cX1_isCode 5 = .ok (.iconst 0, 1) := by decide +kernel
theorem dX1_isCode_6 : decode cX1_isCode 6 = .ok (.sipush 1200, 3) := by decide +kernel
theorem dX1_isCode_9 : decode cX1_isCode 9 = .ok (.invokestatic 35, 3) := by decide +kernel
theorem dX1_isCode_12 : decode cX1_isCode 12 = .ok (.goto 11, 3) := by decide +kernel
theorem dX1_isCode_15 : decode cX1_isCode 15 = .ok (.iload_n 1, 1) := by decide +kernel
theorem dX1_isCode_16 : decode cX1_isCode 16 = .ok (.bipush (-99), 2) := by decide +kernel
theorem dX1_isCode_18 : decode cX1_isCode 18 = .ok (.bipush 100, 2) := by decide +kernel
theorem dX1_isCode_20 : decode cX1_isCode 20 = .ok (.invokestatic 35, 3) := by decide +kernel
theorem dX1_isCode_23 : decode cX1_isCode 23 = .ok (.ireturn, 1) := by decide +kernel
theorem dX1_none_0 : decode cX1_none 0 = .ok (.iload_n 0, 1) := by decide +kernel
theorem dX1_none_1 : decode cX1_none 1 = .ok (.ifCond .ne 7, 3) := by decide +kernel
theorem dX1_none_4 : decode cX1_none 4 = .ok (.iconst 0, 1) := by decide +kernel
theorem dX1_none_5 : decode cX1_none 5 = .ok (.goto 5, 3) := by decide +kernel
theorem dX1_none_8 : decode cX1_none 8 = .ok (.bipush 100, 2) := by decide +kernel
theorem dX1_none_10 : decode cX1_none 10 = .ok (.ireturn, 1) := by decide +kernel
set_option maxRecDepth 20000 in
theorem ggX1_code_X1_none : GoodIn wsX1_code wsX1_none := goodIn_r _ [7] (by decide +kernel) (by decide +kernel)
set_option maxRecDepth 20000 in
theorem gX1_code_X1_none : GoodIn wsX1_code (va_wsS RX1 39 yX1_none wsX1_none) := goodIn_app (goodIn_of _ (by decide +kernel)) ggX1_code_X1_none
theorem dX1_code_0 : decode cX1_code 0 = .ok (.iload_n 3, 1) := by decide +kernel
theorem dX1_code_1 : decode cX1_code 1 = .ok (.aload_n 0, 1) := by decide +kernel
theorem dX1_code_2 : decode cX1_code 2 = .ok (.getfield 13, 3) := by decide +kernel
theorem dX1_code_5 : decode cX1_code 5 = .ok (.iload_n 2, 1) := by decide +kernel
theorem dX1_code_6 : decode cX1_code 6 = .ok (.iaload, 1) := by decide +kernel
theorem dX1_code_7 : decode cX1_code 7 = .ok (.if_icmp .lt 8, 3) := by decide +kernel
theorem dX1_code_10 : decode cX1_code 10 = .ok (.iload_n 1, 1) := by decide +kernel
theorem dX1_code_11 : decode cX1_code 11 = .ok (.invokestatic 39, 3) := by decide +kernel
theorem dX1_code_14 : decode cX1_code 14 = .ok (.ireturn, 1) := by decide +kernel
theorem dX1_code_15 : decode cX1_code 15 = .ok (.iload_n 1, 1) := by decide +kernel
theorem dX1_code_16 : decode cX1_code 16 = .ok (.ifCond .ne 17, 3) := by decide +kernel
theorem dX1_code_19 : decode cX1_code 19 = .ok (.aload_n 0, 1) := by decide +kernel
theorem dX1_code_20 : decode cX1_code 20 = .ok (.getfield 16, 3) := by decide +kernel
theorem dX1_code_23 : decode cX1_code 23 = .ok (.bipush 6, 2) := by decide +kernel
theorem dX1_code_25 : decode cX1_code 25 = .ok (.iload_n 2, 1) := by decide +kernel
theorem dX1_code_26 : decode cX1_code 26 = .ok (.imul, 1) := by decide +kernel
theorem dX1_code_27 : decode cX1_code 27 = .ok (.iload_n 3, 1) := by decide +kernel
theorem dX1_code_28 : decode cX1_code 28 = .ok (.iadd, 1) := by decide +kernel
theorem dX1_code_29 : decode cX1_code 29 = .ok (.iaload, 1) := by decide +kernel
theorem dX1_code_30 : decode cX1_code 30 = .ok (.goto 14, 3) := by decide +kernel
theorem dX1_code_33 : decode cX1_code 33 = .ok (.aload_n 0, 1) := by decide +kernel
theorem dX1_code_34 : decode cX1_code 34 = .ok (.getfield 19, 3) := by decide +kernel
theorem dX1_code_37 : decode cX1_code 37 = .ok (.bipush 6, 2) := by decide +kernel
theorem dX1_code_39 : decode cX1_code 39 = .ok (.iload_n 2, 1) := by decide +kernel
theorem dX1_code_40 : decode cX1_code 40 = .ok (.imul, 1) := by decide +kernel
theorem dX1_code_41 : decode cX1_code 41 = .ok (.iload_n 3, 1) := by decide +kernel
theorem dX1_code_42 : decode cX1_code 42 = .ok (.iadd, 1) := by decide +kernel
theorem dX1_code_43 : decode cX1_code 43 = .ok (.iaload, 1) := by decide +kernel
theorem dX1_code_44 : decode cX1_code 44 = .ok (.ireturn, 1) := by decide +kernel
set_option maxRecDepth 20000 in
theorem ggX1_fit_X1_none : GoodIn wsX1_fit wsX1_none := goodIn_r _ [5] (by decide +kernel) (by decide +kernel)
set_option maxRecDepth 20000 in
theorem gX1_fit_X1_none : GoodIn wsX1_fit (va_wsS RX1 39 yX1_none wsX1_none) := goodIn_app (goodIn_of _ (by decide +kernel)) ggX1_fit_X1_none
theorem dX1_fit_0 : decode cX1_fit 0 = .ok (.iload_n 3, 1) := by decide +kernel
theorem dX1_fit_1 : decode cX1_fit 1 = .ok (.iload_n 2, 1) := by decide +kernel
theorem dX1_fit_2 : decode cX1_fit 2 = .ok (.invokestatic 39, 3) := by decide +kernel
theorem dX1_fit_5 : decode cX1_fit 5 = .ok (.if_icmp .eq 12, 3) := by decide +kernel
theorem dX1_fit_8 : decode cX1_fit 8 = .ok (.iload 4, 2) := by decide +kernel
theorem dX1_fit_10 : decode cX1_fit 10 = .ok (.iload_n 2, 1) := by decide +kernel
theorem dX1_fit_11 : decode cX1_fit 11 = .ok (.invokestatic 39, 3) := by decide +kernel
theorem dX1_fit_14 : decode cX1_fit 14 = .ok (.if_icmp .ne 14, 3) := by decide +kernel
theorem dX1_fit_17 : decode cX1_fit 17 = .ok (.iload_n 1, 1) := by decide +kernel
theorem dX1_fit_18 : decode cX1_fit 18 = .ok (.iconst 5, 1) := by decide +kernel
theorem dX1_fit_19 : decode cX1_fit 19 = .ok (.if_icmp .ne 7, 3) := by decide +kernel
theorem dX1_fit_22 : decode cX1_fit 22 = .ok (.iconst 1, 1) := by decide +kernel
theorem dX1_fit_23 : decode cX1_fit 23 = .ok (.goto 4, 3) := by decide +kernel
theorem dX1_fit_26 : decode cX1_fit 26 = .ok (.iconst 0, 1) := by decide +kernel
theorem dX1_fit_27 : decode cX1_fit 27 = .ok (.ireturn, 1) := by decide +kernel
theorem dX1_fit_28 : decode cX1_fit 28 = .ok (.iload_n 3, 1) := by decide +kernel
theorem dX1_fit_29 : decode cX1_fit 29 = .ok (.iload 4, 2) := by decide +kernel
theorem dX1_fit_31 : decode cX1_fit 31 = .ok (.if_icmp .ge 7, 3) := by decide +kernel
theorem dX1_fit_34 : decode cX1_fit 34 = .ok (.iconst 1, 1) := by decide +kernel
theorem dX1_fit_35 : decode cX1_fit 35 = .ok (.goto 14, 3) := by decide +kernel
theorem dX1_fit_38 : decode cX1_fit 38 = .ok (.iload_n 3, 1) := by decide +kernel
theorem dX1_fit_39 : decode cX1_fit 39 = .ok (.iload 4, 2) := by decide +kernel
theorem dX1_fit_41 : decode cX1_fit 41 = .ok (.if_icmp .ne 7, 3) := by decide +kernel
theorem dX1_fit_44 : decode cX1_fit 44 = .ok (.iconst 2, 1) := by decide +kernel
theorem dX1_fit_45 : decode cX1_fit 45 = .ok (.goto 4, 3) := by decide +kernel
theorem dX1_fit_48 : decode cX1_fit 48 = .ok (.iconst 4, 1) := by decide +kernel
theorem dX1_fit_49 : decode cX1_fit 49 = .ok (.istore 5, 2) := by decide +kernel
theorem dX1_fit_51 : decode cX1_fit 51 = .ok (.aload_n 0, 1) := by decide +kernel
theorem dX1_fit_52 : decode cX1_fit 52 = .ok (.getfield 22, 3) := by decide +kernel
theorem dX1_fit_55 : decode cX1_fit 55 = .ok (.iload_n 1, 1) := by decide +kernel
theorem dX1_fit_56 : decode cX1_fit 56 = .ok (.iaload, 1) := by decide +kernel
theorem dX1_fit_57 : decode cX1_fit 57 = .ok (.iload 5, 2) := by decide +kernel
theorem dX1_fit_59 : decode cX1_fit 59 = .ok (.iand, 1) := by decide +kernel
theorem dX1_fit_60 : decode cX1_fit 60 = .ok (.ifCond .eq 7, 3) := by decide +kernel
theorem dX1_fit_63 : decode cX1_fit 63 = .ok (.iconst 1, 1) := by decide +kernel
theorem dX1_fit_64 : decode cX1_fit 64 = .ok (.goto 4, 3) := by decide +kernel
theorem dX1_fit_67 : decode cX1_fit 67 = .ok (.iconst 0, 1) := by decide +kernel
theorem dX1_fit_68 : decode cX1_fit 68 = .ok (.ireturn, 1) := by decide +kernel
set_option maxRecDepth 20000 in
theorem ggX1_isAsked_X1_isIn : GoodIn wsX1_isAsked wsX1_isIn := goodIn_r _ [4] (by decide +kernel) (by decide +kernel)
set_option maxRecDepth 20000 in
theorem gX1_isAsked_X1_isIn : GoodIn wsX1_isAsked (va_wsS RX1 35 yX1_isIn wsX1_isIn) := goodIn_app (goodIn_of _ (by decide +kernel)) ggX1_isAsked_X1_isIn
set_option maxRecDepth 20000 in
theorem ggX1_isAsked_X1_isJumper : GoodIn wsX1_isAsked wsX1_isJumper := goodIn_r _ [8, 9, 1, 2, 3, 4, 10, 11, 12, 13, 14, 15, 16, 17] (by decide +kernel) (by decide +kernel)
set_option maxRecDepth 20000 in
theorem gX1_isAsked_X1_isJumper : GoodIn wsX1_isAsked (wsV RX1 43 RX1 yX1_isJumper wsX1_isJumper) := goodIn_app (goodIn_of _ (by decide +kernel)) ggX1_isAsked_X1_isJumper
theorem dX1_isAsked_0 : decode cX1_isAsked 0 = .ok (.iload_n 1, 1) := by decide +kernel
theorem dX1_isAsked_1 : decode cX1_isAsked 1 = .ok (.iconst 0, 1) := by decide +kernel
theorem dX1_isAsked_2 : decode cX1_isAsked 2 = .ok (.iconst 5, 1) := by decide +kernel
theorem dX1_isAsked_3 : decode cX1_isAsked 3 = .ok (.invokestatic 35, 3) := by decide +kernel
theorem dX1_isAsked_6 : decode cX1_isAsked 6 = .ok (.ifCond .eq 24, 3) := by decide +kernel
theorem dX1_isAsked_9 : decode cX1_isAsked 9 = .ok (.iload_n 2, 1) := by decide +kernel
theorem dX1_isAsked_10 : decode cX1_isAsked 10 = .ok (.iconst 0, 1) := by decide +kernel
theorem dX1_isAsked_11 : decode cX1_isAsked 11 = .ok (.iconst 1, 1) := by decide +kernel
theorem dX1_isAsked_12 : decode cX1_isAsked 12 = .ok (.invokestatic 35, 3) := by decide +kernel
theorem dX1_isAsked_15 : decode cX1_isAsked 15 = .ok (.ifCond .eq 15, 3) := by decide +kernel
theorem dX1_isAsked_18 : decode cX1_isAsked 18 = .ok (.aload_n 0, 1) := by decide +kernel
theorem dX1_isAsked_19 : decode cX1_isAsked 19 = .ok (.iload_n 3, 1) := by decide +kernel
theorem dX1_isAsked_20 : decode cX1_isAsked 20 = .ok (.invokevirtual 43, 3) := by decide +kernel
theorem dX1_isAsked_23 : decode cX1_isAsked 23 = .ok (.ifCond .eq 7, 3) := by decide +kernel
theorem dX1_isAsked_26 : decode cX1_isAsked 26 = .ok (.iconst 1, 1) := by decide +kernel
theorem dX1_isAsked_27 : decode cX1_isAsked 27 = .ok (.goto 4, 3) := by decide +kernel
theorem dX1_isAsked_30 : decode cX1_isAsked 30 = .ok (.iconst 0, 1) := by decide +kernel
theorem dX1_isAsked_31 : decode cX1_isAsked 31 = .ok (.ireturn, 1) := by decide +kernel
set_option maxRecDepth 20000 in
theorem ggX1_isAskedOf_X1_isAsked : GoodIn wsX1_isAskedOf wsX1_isAsked := goodIn_r _ [5, 6, 7, 4, 8, 9, 10, 11, 12, 13, 17, 18, 19, 20, 21, 22, 23, 24] (by decide +kernel) (by decide +kernel)
set_option maxRecDepth 20000 in
theorem gX1_isAskedOf_X1_isAsked : GoodIn wsX1_isAskedOf (wsV RX1 47 RX1 yX1_isAsked wsX1_isAsked) := goodIn_app (goodIn_of _ (by decide +kernel)) ggX1_isAskedOf_X1_isAsked
set_option maxRecDepth 20000 in
theorem ggX1_isAskedOf_X1_isCode : GoodIn wsX1_isAskedOf wsX1_isCode := goodIn_r _ [16, 6, 7, 4, 8] (by decide +kernel) (by decide +kernel)
set_option maxRecDepth 20000 in
theorem gX1_isAskedOf_X1_isCode : GoodIn wsX1_isAskedOf (va_wsS RX1 50 yX1_isCode wsX1_isCode) := goodIn_app (goodIn_of _ (by decide +kernel)) ggX1_isAskedOf_X1_isCode
theorem dX1_isAskedOf_0 : decode cX1_isAskedOf 0 = .ok (.aload_n 0, 1) := by decide +kernel
theorem dX1_isAskedOf_1 : decode cX1_isAskedOf 1 = .ok (.iload_n 1, 1) := by decide +kernel
theorem dX1_isAskedOf_2 : decode cX1_isAskedOf 2 = .ok (.iload_n 2, 1) := by decide +kernel
theorem dX1_isAskedOf_3 : decode cX1_isAskedOf 3 = .ok (.iload_n 3, 1) := by decide +kernel
theorem dX1_isAskedOf_4 : decode cX1_isAskedOf 4 = .ok (.invokevirtual 47, 3) := by decide +kernel
theorem dX1_isAskedOf_7 : decode cX1_isAskedOf 7 = .ok (.ifCond .eq 16, 3) := by decide +kernel
theorem dX1_isAskedOf_10 : decode cX1_isAskedOf 10 = .ok (.iload_n 2, 1) := by decide +kernel
theorem dX1_isAskedOf_11 : decode cX1_isAskedOf 11 = .ok (.iload 4, 2) := by decide +kernel
theorem dX1_isAskedOf_13 : decode cX1_isAskedOf 13 = .ok (.invokestatic 50, 3) := by decide +kernel
theorem dX1_isAskedOf_16 : decode cX1_isAskedOf 16 = .ok (.ifCond .eq 7, 3) := by decide +kernel
theorem dX1_isAskedOf_19 : decode cX1_isAskedOf 19 = .ok (.iconst 1, 1) := by decide +kernel
theorem dX1_isAskedOf_20 : decode cX1_isAskedOf 20 = .ok (.goto 4, 3) := by decide +kernel
theorem dX1_isAskedOf_23 : decode cX1_isAskedOf 23 = .ok (.iconst 0, 1) := by decide +kernel
theorem dX1_isAskedOf_24 : decode cX1_isAskedOf 24 = .ok (.ireturn, 1) := by decide +kernel
set_option maxRecDepth 20000 in
theorem ggX1_enter_X1_isIn : GoodIn wsX1_enter wsX1_isIn := goodIn_r _ [7] (by decide +kernel) (by decide +kernel)
set_option maxRecDepth 20000 in
theorem gX1_enter_X1_isIn : GoodIn wsX1_enter (va_wsS RX1 35 yX1_isIn wsX1_isIn) := goodIn_app (goodIn_of _ (by decide +kernel)) ggX1_enter_X1_isIn
theorem dX1_enter_0 : decode cX1_enter 0 = .ok (.aload_n 0, 1) := by decide +kernel
theorem dX1_enter_1 : decode cX1_enter 1 = .ok (.getfield 32, 3) := by decide +kernel
theorem dX1_enter_4 : decode cX1_enter 4 = .ok (.bipush 8, 2) := by decide +kernel
theorem dX1_enter_6 : decode cX1_enter 6 = .ok (.if_icmp .eq 14, 3) := by decide +kernel
theorem dX1_enter_9 : decode cX1_enter 9 = .ok (.iload_n 1, 1) := by decide +kernel
theorem dX1_enter_10 : decode cX1_enter 10 = .ok (.iconst 1, 1) := by decide +kernel
theorem dX1_enter_11 : decode cX1_enter 11 = .ok (.sipush 999, 3) := by decide +kernel
theorem dX1_enter_14 : decode cX1_enter 14 = .ok (.invokestatic 35, 3) := by decide +kernel
theorem dX1_enter_17 : decode cX1_enter 17 = .ok (.ifCond .ne 7, 3) := by decide +kernel
theorem dX1_enter_20 : decode cX1_enter 20 = .ok (.sipush (-1000), 3) := by decide +kernel
theorem dX1_enter_23 : decode cX1_enter 23 = .ok (.ireturn, 1) := by decide +kernel
theorem dX1_enter_24 : decode cX1_enter 24 = .ok (.iconst 0, 1) := by decide +kernel
theorem dX1_enter_25 : decode cX1_enter 25 = .ok (.istore_n 2, 1) := by decide +kernel
theorem dX1_enter_26 : decode cX1_enter 26 = .ok (.iload_n 2, 1) := by decide +kernel
theorem dX1_enter_27 : decode cX1_enter 27 = .ok (.aload_n 0, 1) := by decide +kernel
theorem dX1_enter_28 : decode cX1_enter 28 = .ok (.getfield 32, 3) := by decide +kernel
theorem dX1_enter_31 : decode cX1_enter 31 = .ok (.if_icmp .ge 23, 3) := by decide +kernel
theorem dX1_enter_34 : decode cX1_enter 34 = .ok (.aload_n 0, 1) := by decide +kernel
theorem dX1_enter_35 : decode cX1_enter 35 = .ok (.getfield 7, 3) := by decide +kernel
theorem dX1_enter_38 : decode cX1_enter 38 = .ok (.iload_n 2, 1) := by decide +kernel
theorem dX1_enter_39 : decode cX1_enter 39 = .ok (.iaload, 1) := by decide +kernel
theorem dX1_enter_40 : decode cX1_enter 40 = .ok (.iload_n 1, 1) := by decide +kernel
theorem dX1_enter_41 : decode cX1_enter 41 = .ok (.if_icmp .ne 7, 3) := by decide +kernel
theorem dX1_enter_44 : decode cX1_enter 44 = .ok (.sipush (-1000), 3) := by decide +kernel
theorem dX1_enter_47 : decode cX1_enter 47 = .ok (.ireturn, 1) := by decide +kernel
theorem dX1_enter_48 : decode cX1_enter 48 = .ok (.iinc 2 1, 3) := by decide +kernel
theorem dX1_enter_51 : decode cX1_enter 51 = .ok (.goto (-25), 3) := by decide +kernel
theorem dX1_enter_54 : decode cX1_enter 54 = .ok (.aload_n 0, 1) := by decide +kernel
theorem dX1_enter_55 : decode cX1_enter 55 = .ok (.getfield 7, 3) := by decide +kernel
theorem dX1_enter_58 : decode cX1_enter 58 = .ok (.aload_n 0, 1) := by decide +kernel
theorem dX1_enter_59 : decode cX1_enter 59 = .ok (.getfield 32, 3) := by decide +kernel
theorem dX1_enter_62 : decode cX1_enter 62 = .ok (.iload_n 1, 1) := by decide +kernel
theorem dX1_enter_63 : decode cX1_enter 63 = .ok (.iastore, 1) := by decide +kernel
theorem dX1_enter_64 : decode cX1_enter 64 = .ok (.aload_n 0, 1) := by decide +kernel
theorem dX1_enter_65 : decode cX1_enter 65 = .ok (.getfield 13, 3) := by decide +kernel
theorem dX1_enter_68 : decode cX1_enter 68 = .ok (.aload_n 0, 1) := by decide +kernel
theorem dX1_enter_69 : decode cX1_enter 69 = .ok (.getfield 32, 3) := by decide +kernel
theorem dX1_enter_72 : decode cX1_enter 72 = .ok (.iconst 0, 1) := by decide +kernel
theorem dX1_enter_73 : decode cX1_enter 73 = .ok (.iastore, 1) := by decide +kernel
theorem dX1_enter_74 : decode cX1_enter 74 = .ok (.aload_n 0, 1) := by decide +kernel
theorem dX1_enter_75 : decode cX1_enter 75 = .ok (.dup, 1) := by decide +kernel
theorem dX1_enter_76 : decode cX1_enter 76 = .ok (.getfield 32, 3) := by decide +kernel
theorem dX1_enter_79 : decode cX1_enter 79 = .ok (.iconst 1, 1) := by decide +kernel
theorem dX1_enter_80 : decode cX1_enter 80 = .ok (.iadd, 1) := by decide +kernel
theorem dX1_enter_81 : decode cX1_enter 81 = .ok (.putfield 32, 3) := by decide +kernel
theorem dX1_enter_84 : decode cX1_enter 84 = .ok (.aload_n 0, 1) := by decide +kernel
theorem dX1_enter_85 : decode cX1_enter 85 = .ok (.getfield 32, 3) := by decide +kernel
theorem dX1_enter_88 : decode cX1_enter 88 = .ok (.iconst 1, 1) := by decide +kernel
theorem dX1_enter_89 : decode cX1_enter 89 = .ok (.isub, 1) := by decide +kernel
theorem dX1_enter_90 : decode cX1_enter 90 = .ok (.ireturn, 1) := by decide +kernel
set_option maxRecDepth 20000 in
theorem ggX1_jump_X1_isJumper : GoodIn wsX1_jump wsX1_isJumper := goodIn_r _ [8, 9, 10, 11, 7, 12, 16, 17, 18, 19, 20, 21, 22, 23] (by decide +kernel) (by decide +kernel)
set_option maxRecDepth 20000 in
theorem gX1_jump_X1_isJumper : GoodIn wsX1_jump (wsV RX1 43 RX1 yX1_isJumper wsX1_isJumper) := goodIn_app (goodIn_of _ (by decide +kernel)) ggX1_jump_X1_isJumper
set_option maxRecDepth 20000 in
theorem ggX1_jump_X1_isCode : GoodIn wsX1_jump wsX1_isCode := goodIn_r _ [15, 10, 11, 7, 12] (by decide +kernel) (by decide +kernel)
set_option maxRecDepth 20000 in
theorem gX1_jump_X1_isCode : GoodIn wsX1_jump (va_wsS RX1 50 yX1_isCode wsX1_isCode) := goodIn_app (goodIn_of _ (by decide +kernel)) ggX1_jump_X1_isCode
theorem dX1_jump_0 : decode cX1_jump 0 = .ok (.aload_n 0, 1) := by decide +kernel
theorem dX1_jump_1 : decode cX1_jump 1 = .ok (.iload_n 1, 1) := by decide +kernel
theorem dX1_jump_2 : decode cX1_jump 2 = .ok (.invokevirtual 43, 3) := by decide +kernel
theorem dX1_jump_5 : decode cX1_jump 5 = .ok (.ifCond .eq 19, 3) := by decide +kernel
theorem dX1_jump_8 : decode cX1_jump 8 = .ok (.iconst 0, 1) := by decide +kernel
theorem dX1_jump_9 : decode cX1_jump 9 = .ok (.iload_n 2, 1) := by decide +kernel
theorem dX1_jump_10 : decode cX1_jump 10 = .ok (.invokestatic 50, 3) := by decide +kernel
theorem dX1_jump_13 : decode cX1_jump 13 = .ok (.ifCond .eq 11, 3) := by decide +kernel
theorem dX1_jump_16 : decode cX1_jump 16 = .ok (.iconst 1, 1) := by decide +kernel
theorem dX1_jump_17 : decode cX1_jump 17 = .ok (.iload_n 3, 1) := by decide +kernel
theorem dX1_jump_18 : decode cX1_jump 18 = .ok (.invokestatic 50, 3) := by decide +kernel
theorem dX1_jump_21 : decode cX1_jump 21 = .ok (.ifCond .ne 7, 3) := by decide +kernel
theorem dX1_jump_24 : decode cX1_jump 24 = .ok (.sipush (-1000), 3) := by decide +kernel
theorem dX1_jump_27 : decode cX1_jump 27 = .ok (.ireturn, 1) := by decide +kernel
theorem dX1_jump_28 : decode cX1_jump 28 = .ok (.aload_n 0, 1) := by decide +kernel
theorem dX1_jump_29 : decode cX1_jump 29 = .ok (.getfield 13, 3) := by decide +kernel
theorem dX1_jump_32 : decode cX1_jump 32 = .ok (.iload_n 1, 1) := by decide +kernel
theorem dX1_jump_33 : decode cX1_jump 33 = .ok (.iaload, 1) := by decide +kernel
theorem dX1_jump_34 : decode cX1_jump 34 = .ok (.istore 4, 2) := by decide +kernel
theorem dX1_jump_36 : decode cX1_jump 36 = .ok (.iload 4, 2) := by decide +kernel
theorem dX1_jump_38 : decode cX1_jump 38 = .ok (.bipush 6, 2) := by decide +kernel
theorem dX1_jump_40 : decode cX1_jump 40 = .ok (.if_icmp .ne 7, 3) := by decide +kernel
theorem dX1_jump_43 : decode cX1_jump 43 = .ok (.sipush (-1000), 3) := by decide +kernel
theorem dX1_jump_46 : decode cX1_jump 46 = .ok (.ireturn, 1) := by decide +kernel
theorem dX1_jump_47 : decode cX1_jump 47 = .ok (.aload_n 0, 1) := by decide +kernel
theorem dX1_jump_48 : decode cX1_jump 48 = .ok (.getfield 16, 3) := by decide +kernel
theorem dX1_jump_51 : decode cX1_jump 51 = .ok (.bipush 6, 2) := by decide +kernel
theorem dX1_jump_53 : decode cX1_jump 53 = .ok (.iload_n 1, 1) := by decide +kernel
theorem dX1_jump_54 : decode cX1_jump 54 = .ok (.imul, 1) := by decide +kernel
theorem dX1_jump_55 : decode cX1_jump 55 = .ok (.iload 4, 2) := by decide +kernel
theorem dX1_jump_57 : decode cX1_jump 57 = .ok (.iadd, 1) := by decide +kernel
theorem dX1_jump_58 : decode cX1_jump 58 = .ok (.iload_n 2, 1) := by decide +kernel
theorem dX1_jump_59 : decode cX1_jump 59 = .ok (.iastore, 1) := by decide +kernel
theorem dX1_jump_60 : decode cX1_jump 60 = .ok (.aload_n 0, 1) := by decide +kernel
theorem dX1_jump_61 : decode cX1_jump 61 = .ok (.getfield 19, 3) := by decide +kernel
theorem dX1_jump_64 : decode cX1_jump 64 = .ok (.bipush 6, 2) := by decide +kernel
theorem dX1_jump_66 : decode cX1_jump 66 = .ok (.iload_n 1, 1) := by decide +kernel
theorem dX1_jump_67 : decode cX1_jump 67 = .ok (.imul, 1) := by decide +kernel
theorem dX1_jump_68 : decode cX1_jump 68 = .ok (.iload 4, 2) := by decide +kernel
theorem dX1_jump_70 : decode cX1_jump 70 = .ok (.iadd, 1) := by decide +kernel
theorem dX1_jump_71 : decode cX1_jump 71 = .ok (.iload_n 3, 1) := by decide +kernel
theorem dX1_jump_72 : decode cX1_jump 72 = .ok (.iastore, 1) := by decide +kernel
theorem dX1_jump_73 : decode cX1_jump 73 = .ok (.aload_n 0, 1) := by decide +kernel
theorem dX1_jump_74 : decode cX1_jump 74 = .ok (.getfield 13, 3) := by decide +kernel
theorem dX1_jump_77 : decode cX1_jump 77 = .ok (.iload_n 1, 1) := by decide +kernel
theorem dX1_jump_78 : decode cX1_jump 78 = .ok (.dup2, 1) := by decide +kernel
theorem dX1_jump_79 : decode cX1_jump 79 = .ok (.iaload, 1) := by decide +kernel
theorem dX1_jump_80 : decode cX1_jump 80 = .ok (.iconst 1, 1) := by decide +kernel
theorem dX1_jump_81 : decode cX1_jump 81 = .ok (.iadd, 1) := by decide +kernel
theorem dX1_jump_82 : decode cX1_jump 82 = .ok (.iastore, 1) := by decide +kernel
theorem dX1_jump_83 : decode cX1_jump 83 = .ok (.iload 4, 2) := by decide +kernel
theorem dX1_jump_85 : decode cX1_jump 85 = .ok (.ireturn, 1) := by decide +kernel
set_option maxRecDepth 20000 in
theorem ggX1_undo_X1_isJumper : GoodIn wsX1_undo wsX1_isJumper := goodIn_r _ [6, 7, 8, 9, 5, 10, 11, 12, 13, 14, 15, 16, 17, 18] (by decide +kernel) (by decide +kernel)
set_option maxRecDepth 20000 in
theorem gX1_undo_X1_isJumper : GoodIn wsX1_undo (wsV RX1 43 RX1 yX1_isJumper wsX1_isJumper) := goodIn_app (goodIn_of _ (by decide +kernel)) ggX1_undo_X1_isJumper
theorem dX1_undo_0 : decode cX1_undo 0 = .ok (.aload_n 0, 1) := by decide +kernel
theorem dX1_undo_1 : decode cX1_undo 1 = .ok (.iload_n 1, 1) := by decide +kernel
theorem dX1_undo_2 : decode cX1_undo 2 = .ok (.invokevirtual 43, 3) := by decide +kernel
theorem dX1_undo_5 : decode cX1_undo 5 = .ok (.ifCond .eq 12, 3) := by decide +kernel
theorem dX1_undo_8 : decode cX1_undo 8 = .ok (.aload_n 0, 1) := by decide +kernel
theorem dX1_undo_9 : decode cX1_undo 9 = .ok (.getfield 13, 3) := by decide +kernel
theorem dX1_undo_12 : decode cX1_undo 12 = .ok (.iload_n 1, 1) := by decide +kernel
theorem dX1_undo_13 : decode cX1_undo 13 = .ok (.iaload, 1) := by decide +kernel
theorem dX1_undo_14 : decode cX1_undo 14 = .ok (.ifCond .ne 7, 3) := by decide +kernel
theorem dX1_undo_17 : decode cX1_undo 17 = .ok (.sipush (-1000), 3) := by decide +kernel
theorem dX1_undo_20 : decode cX1_undo 20 = .ok (.ireturn, 1) := by decide +kernel
theorem dX1_undo_21 : decode cX1_undo 21 = .ok (.aload_n 0, 1) := by decide +kernel
theorem dX1_undo_22 : decode cX1_undo 22 = .ok (.getfield 13, 3) := by decide +kernel
theorem dX1_undo_25 : decode cX1_undo 25 = .ok (.iload_n 1, 1) := by decide +kernel
theorem dX1_undo_26 : decode cX1_undo 26 = .ok (.dup2, 1) := by decide +kernel
theorem dX1_undo_27 : decode cX1_undo 27 = .ok (.iaload, 1) := by decide +kernel
theorem dX1_undo_28 : decode cX1_undo 28 = .ok (.iconst 1, 1) := by decide +kernel
theorem dX1_undo_29 : decode cX1_undo 29 = .ok (.isub, 1) := by decide +kernel
theorem dX1_undo_30 : decode cX1_undo 30 = .ok (.iastore, 1) := by decide +kernel
theorem dX1_undo_31 : decode cX1_undo 31 = .ok (.aload_n 0, 1) := by decide +kernel
theorem dX1_undo_32 : decode cX1_undo 32 = .ok (.getfield 13, 3) := by decide +kernel
theorem dX1_undo_35 : decode cX1_undo 35 = .ok (.iload_n 1, 1) := by decide +kernel
theorem dX1_undo_36 : decode cX1_undo 36 = .ok (.iaload, 1) := by decide +kernel
theorem dX1_undo_37 : decode cX1_undo 37 = .ok (.ireturn, 1) := by decide +kernel
set_option maxRecDepth 20000 in
theorem ggX1_record_X1_isCode : GoodIn wsX1_record wsX1_isCode := goodIn_r _ [5, 6, 7, 4, 8] (by decide +kernel) (by decide +kernel)
set_option maxRecDepth 20000 in
theorem gX1_record_X1_isCode : GoodIn wsX1_record (va_wsS RX1 50 yX1_isCode wsX1_isCode) := goodIn_app (goodIn_of _ (by decide +kernel)) ggX1_record_X1_isCode
theorem dX1_record_0 : decode cX1_record 0 = .ok (.iconst 0, 1) := by decide +kernel
theorem dX1_record_1 : decode cX1_record 1 = .ok (.iload_n 1, 1) := by decide +kernel
theorem dX1_record_2 : decode cX1_record 2 = .ok (.invokestatic 50, 3) := by decide +kernel
theorem dX1_record_5 : decode cX1_record 5 = .ok (.ifCond .ne 7, 3) := by decide +kernel
theorem dX1_record_8 : decode cX1_record 8 = .ok (.sipush (-1000), 3) := by decide +kernel
theorem dX1_record_11 : decode cX1_record 11 = .ok (.ireturn, 1) := by decide +kernel
theorem dX1_record_12 : decode cX1_record 12 = .ok (.aload_n 0, 1) := by decide +kernel
theorem dX1_record_13 : decode cX1_record 13 = .ok (.getfield 25, 3) := by decide +kernel
theorem dX1_record_16 : decode cX1_record 16 = .ok (.istore_n 2, 1) := by decide +kernel
theorem dX1_record_17 : decode cX1_record 17 = .ok (.aload_n 0, 1) := by decide +kernel
theorem dX1_record_18 : decode cX1_record 18 = .ok (.iload_n 1, 1) := by decide +kernel
theorem dX1_record_19 : decode cX1_record 19 = .ok (.putfield 25, 3) := by decide +kernel
theorem dX1_record_22 : decode cX1_record 22 = .ok (.iload_n 2, 1) := by decide +kernel
theorem dX1_record_23 : decode cX1_record 23 = .ok (.ireturn, 1) := by decide +kernel
set_option maxRecDepth 20000 in
theorem ggX1_limit_X1_isCode : GoodIn wsX1_limit wsX1_isCode := goodIn_r _ [5, 6, 7, 4, 8] (by decide +kernel) (by decide +kernel)
set_option maxRecDepth 20000 in
theorem gX1_limit_X1_isCode : GoodIn wsX1_limit (va_wsS RX1 50 yX1_isCode wsX1_isCode) := goodIn_app (goodIn_of _ (by decide +kernel)) ggX1_limit_X1_isCode
theorem dX1_limit_0 : decode cX1_limit 0 = .ok (.iconst 1, 1) := by decide +kernel
theorem dX1_limit_1 : decode cX1_limit 1 = .ok (.iload_n 1, 1) := by decide +kernel
theorem dX1_limit_2 : decode cX1_limit 2 = .ok (.invokestatic 50, 3) := by decide +kernel
theorem dX1_limit_5 : decode cX1_limit 5 = .ok (.ifCond .ne 7, 3) := by decide +kernel
theorem dX1_limit_8 : decode cX1_limit 8 = .ok (.sipush (-1000), 3) := by decide +kernel
theorem dX1_limit_11 : decode cX1_limit 11 = .ok (.ireturn, 1) := by decide +kernel
theorem dX1_limit_12 : decode cX1_limit 12 = .ok (.aload_n 0, 1) := by decide +kernel
theorem dX1_limit_13 : decode cX1_limit 13 = .ok (.getfield 29, 3) := by decide +kernel
theorem dX1_limit_16 : decode cX1_limit 16 = .ok (.istore_n 2, 1) := by decide +kernel
theorem dX1_limit_17 : decode cX1_limit 17 = .ok (.aload_n 0, 1) := by decide +kernel
theorem dX1_limit_18 : decode cX1_limit 18 = .ok (.iload_n 1, 1) := by decide +kernel
theorem dX1_limit_19 : decode cX1_limit 19 = .ok (.putfield 29, 3) := by decide +kernel
theorem dX1_limit_22 : decode cX1_limit 22 = .ok (.iload_n 2, 1) := by decide +kernel
theorem dX1_limit_23 : decode cX1_limit 23 = .ok (.ireturn, 1) := by decide +kernel
set_option maxRecDepth 20000 in
theorem ggX1_value_X1_isIn : GoodIn wsX1_value wsX1_isIn := goodIn_r _ [4] (by decide +kernel) (by decide +kernel)
set_option maxRecDepth 20000 in
theorem gX1_value_X1_isIn : GoodIn wsX1_value (va_wsS RX1 35 yX1_isIn wsX1_isIn) := goodIn_app (goodIn_of _ (by decide +kernel)) ggX1_value_X1_isIn
set_option maxRecDepth 20000 in
theorem ggX1_value_X1_isJumper : GoodIn wsX1_value wsX1_isJumper := goodIn_r _ [8, 9, 1, 2, 3, 4, 23, 24, 25, 26, 27, 28, 29, 30] (by decide +kernel) (by decide +kernel)
set_option maxRecDepth 20000 in
theorem gX1_value_X1_isJumper : GoodIn wsX1_value (wsV RX1 43 RX1 yX1_isJumper wsX1_isJumper) := goodIn_app (goodIn_of _ (by decide +kernel)) ggX1_value_X1_isJumper
set_option maxRecDepth 20000 in
theorem ggX1_value_X1_isRound : GoodIn wsX1_value wsX1_isRound := goodIn_r _ [12, 1, 2, 3, 4] (by decide +kernel) (by decide +kernel)
set_option maxRecDepth 20000 in
theorem gX1_value_X1_isRound : GoodIn wsX1_value (va_wsS RX1 54 yX1_isRound wsX1_isRound) := goodIn_app (goodIn_of _ (by decide +kernel)) ggX1_value_X1_isRound
set_option maxRecDepth 20000 in
theorem ggX1_value_X1_code : GoodIn wsX1_value wsX1_code := goodIn_r _ [16, 17, 18, 19, 20, 21, 3, 22, 23, 24, 25, 26, 27, 28, 29, 30] (by decide +kernel) (by decide +kernel)
set_option maxRecDepth 20000 in
theorem gX1_value_X1_code : GoodIn wsX1_value (wsV RX1 57 RX1 yX1_code wsX1_code) := goodIn_app (goodIn_of _ (by decide +kernel)) ggX1_value_X1_code
theorem dX1_value_0 : decode cX1_value 0 = .ok (.iload_n 1, 1) := by decide +kernel
theorem dX1_value_1 : decode cX1_value 1 = .ok (.iconst 0, 1) := by decide +kernel
theorem dX1_value_2 : decode cX1_value 2 = .ok (.iconst 1, 1) := by decide +kernel
theorem dX1_value_3 : decode cX1_value 3 = .ok (.invokestatic 35, 3) := by decide +kernel
theorem dX1_value_6 : decode cX1_value 6 = .ok (.ifCond .eq 18, 3) := by decide +kernel
theorem dX1_value_9 : decode cX1_value 9 = .ok (.aload_n 0, 1) := by decide +kernel
theorem dX1_value_10 : decode cX1_value 10 = .ok (.iload_n 2, 1) := by decide +kernel
theorem dX1_value_11 : decode cX1_value 11 = .ok (.invokevirtual 43, 3) := by decide +kernel
theorem dX1_value_14 : decode cX1_value 14 = .ok (.ifCond .eq 10, 3) := by decide +kernel
theorem dX1_value_17 : decode cX1_value 17 = .ok (.iload_n 3, 1) := by decide +kernel
theorem dX1_value_18 : decode cX1_value 18 = .ok (.invokestatic 54, 3) := by decide +kernel
theorem dX1_value_21 : decode cX1_value 21 = .ok (.ifCond .ne 7, 3) := by decide +kernel
theorem dX1_value_24 : decode cX1_value 24 = .ok (.sipush (-1000), 3) := by decide +kernel
theorem dX1_value_27 : decode cX1_value 27 = .ok (.ireturn, 1) := by decide +kernel
theorem dX1_value_28 : decode cX1_value 28 = .ok (.aload_n 0, 1) := by decide +kernel
theorem dX1_value_29 : decode cX1_value 29 = .ok (.iload_n 1, 1) := by decide +kernel
theorem dX1_value_30 : decode cX1_value 30 = .ok (.iload_n 2, 1) := by decide +kernel
theorem dX1_value_31 : decode cX1_value 31 = .ok (.iload_n 3, 1) := by decide +kernel
theorem dX1_value_32 : decode cX1_value 32 = .ok (.invokevirtual 57, 3) := by decide +kernel
theorem dX1_value_35 : decode cX1_value 35 = .ok (.ireturn, 1) := by decide +kernel
set_option maxRecDepth 20000 in
theorem ggX1_fits_X1_isAsked : GoodIn wsX1_fits wsX1_isAsked := goodIn_r _ [5, 6, 7, 4, 8, 9, 10, 11, 12, 13, 32, 33, 34, 35, 36, 37, 38, 39] (by decide +kernel) (by decide +kernel)
set_option maxRecDepth 20000 in
theorem gX1_fits_X1_isAsked : GoodIn wsX1_fits (wsV RX1 47 RX1 yX1_isAsked wsX1_isAsked) := goodIn_app (goodIn_of _ (by decide +kernel)) ggX1_fits_X1_isAsked
set_option maxRecDepth 20000 in
theorem ggX1_fits_X1_isRound : GoodIn wsX1_fits wsX1_isRound := goodIn_r _ [16, 6, 7, 4, 8] (by decide +kernel) (by decide +kernel)
set_option maxRecDepth 20000 in
theorem gX1_fits_X1_isRound : GoodIn wsX1_fits (va_wsS RX1 54 yX1_isRound wsX1_isRound) := goodIn_app (goodIn_of _ (by decide +kernel)) ggX1_fits_X1_isRound
set_option maxRecDepth 20000 in
theorem ggX1_fits_X1_code : GoodIn wsX1_fits wsX1_code := goodIn_r _ [20, 21, 22, 23, 24, 25, 4, 26, 32, 33, 34, 35, 36, 37, 38, 39] (by decide +kernel) (by decide +kernel)
set_option maxRecDepth 20000 in
theorem gX1_fits_X1_code : GoodIn wsX1_fits (wsV RX1 57 RX1 yX1_code wsX1_code) := goodIn_app (goodIn_of _ (by decide +kernel)) ggX1_fits_X1_code
set_option maxRecDepth 20000 in
theorem ggX1_fits_X1_fit : GoodIn wsX1_fits wsX1_fit := goodIn_r _ [30, 31, 24, 25, 4, 26, 32, 33, 34, 35, 36, 37, 38, 39] (by decide +kernel) (by decide +kernel)
set_option maxRecDepth 20000 in
theorem gX1_fits_X1_fit : GoodIn wsX1_fits (wsV RX1 61 RX1 yX1_fit wsX1_fit) := goodIn_app (goodIn_of _ (by decide +kernel)) ggX1_fits_X1_fit
theorem dX1_fits_0 : decode cX1_fits 0 = .ok (.aload_n 0, 1) := by decide +kernel
theorem dX1_fits_1 : decode cX1_fits 1 = .ok (.iload_n 1, 1) := by decide +kernel
theorem dX1_fits_2 : decode cX1_fits 2 = .ok (.iload_n 2, 1) := by decide +kernel
theorem dX1_fits_3 : decode cX1_fits 3 = .ok (.iload_n 3, 1) := by decide +kernel
theorem dX1_fits_4 : decode cX1_fits 4 = .ok (.invokevirtual 47, 3) := by decide +kernel
theorem dX1_fits_7 : decode cX1_fits 7 = .ok (.ifCond .eq 19, 3) := by decide +kernel
theorem dX1_fits_10 : decode cX1_fits 10 = .ok (.iload 4, 2) := by decide +kernel
theorem dX1_fits_12 : decode cX1_fits 12 = .ok (.invokestatic 54, 3) := by decide +kernel
theorem dX1_fits_15 : decode cX1_fits 15 = .ok (.ifCond .eq 11, 3) := by decide +kernel
theorem dX1_fits_18 : decode cX1_fits 18 = .ok (.iload 5, 2) := by decide +kernel
theorem dX1_fits_20 : decode cX1_fits 20 = .ok (.invokestatic 54, 3) := by decide +kernel
theorem dX1_fits_23 : decode cX1_fits 23 = .ok (.ifCond .ne 7, 3) := by decide +kernel
theorem dX1_fits_26 : decode cX1_fits 26 = .ok (.sipush (-1000), 3) := by decide +kernel
theorem dX1_fits_29 : decode cX1_fits 29 = .ok (.ireturn, 1) := by decide +kernel
theorem dX1_fits_30 : decode cX1_fits 30 = .ok (.aload_n 0, 1) := by decide +kernel
theorem dX1_fits_31 : decode cX1_fits 31 = .ok (.iload_n 1, 1) := by decide +kernel
theorem dX1_fits_32 : decode cX1_fits 32 = .ok (.iload_n 2, 1) := by decide +kernel
theorem dX1_fits_33 : decode cX1_fits 33 = .ok (.aload_n 0, 1) := by decide +kernel
theorem dX1_fits_34 : decode cX1_fits 34 = .ok (.iload_n 2, 1) := by decide +kernel
theorem dX1_fits_35 : decode cX1_fits 35 = .ok (.iload_n 3, 1) := by decide +kernel
theorem dX1_fits_36 : decode cX1_fits 36 = .ok (.iload 4, 2) := by decide +kernel
theorem dX1_fits_38 : decode cX1_fits 38 = .ok (.invokevirtual 57, 3) := by decide +kernel
theorem dX1_fits_41 : decode cX1_fits 41 = .ok (.aload_n 0, 1) := by decide +kernel
theorem dX1_fits_42 : decode cX1_fits 42 = .ok (.iload_n 2, 1) := by decide +kernel
theorem dX1_fits_43 : decode cX1_fits 43 = .ok (.iload_n 3, 1) := by decide +kernel
theorem dX1_fits_44 : decode cX1_fits 44 = .ok (.iload 5, 2) := by decide +kernel
theorem dX1_fits_46 : decode cX1_fits 46 = .ok (.invokevirtual 57, 3) := by decide +kernel
theorem dX1_fits_49 : decode cX1_fits 49 = .ok (.invokevirtual 61, 3) := by decide +kernel
theorem dX1_fits_52 : decode cX1_fits 52 = .ok (.ifCond .eq 7, 3) := by decide +kernel
theorem dX1_fits_55 : decode cX1_fits 55 = .ok (.iconst 1, 1) := by decide +kernel
theorem dX1_fits_56 : decode cX1_fits 56 = .ok (.goto 4, 3) := by decide +kernel
theorem dX1_fits_59 : decode cX1_fits 59 = .ok (.iconst 0, 1) := by decide +kernel
theorem dX1_fits_60 : decode cX1_fits 60 = .ok (.ireturn, 1) := by decide +kernel
set_option maxRecDepth 20000 in
theorem ggX1_count_X1_isAskedOf : GoodIn wsX1_count wsX1_isAskedOf := goodIn_r _ [5, 6, 7, 8, 4, 9, 10, 11, 12, 13, 14, 15, 16, 17, 18, 19, 20, 36, 37, 38, 39, 40, 41, 42, 43] (by decide +kernel) (by decide +kernel)
set_option maxRecDepth 20000 in
theorem gX1_count_X1_isAskedOf : GoodIn wsX1_count (wsV RX1 65 RX1 yX1_isAskedOf wsX1_isAskedOf) := goodIn_app (goodIn_of _ (by decide +kernel)) ggX1_count_X1_isAskedOf
set_option maxRecDepth 20000 in
theorem ggX1_count_X1_code : GoodIn wsX1_count wsX1_code := goodIn_r _ [24, 25, 26, 27, 28, 29, 4, 30, 36, 37, 38, 39, 40, 41, 42, 43] (by decide +kernel) (by decide +kernel)
set_option maxRecDepth 20000 in
theorem gX1_count_X1_code : GoodIn wsX1_count (wsV RX1 57 RX1 yX1_code wsX1_code) := goodIn_app (goodIn_of _ (by decide +kernel)) ggX1_count_X1_code
set_option maxRecDepth 20000 in
theorem ggX1_count_X1_fit : GoodIn wsX1_count wsX1_fit := goodIn_r _ [34, 35, 28, 29, 4, 30, 36, 37, 38, 39, 40, 41, 42, 43] (by decide +kernel) (by decide +kernel)
set_option maxRecDepth 20000 in
theorem gX1_count_X1_fit : GoodIn wsX1_count (wsV RX1 61 RX1 yX1_fit wsX1_fit) := goodIn_app (goodIn_of _ (by decide +kernel)) ggX1_count_X1_fit
theorem dX1_count_0 : decode cX1_count 0 = .ok (.aload_n 0, 1) := by decide +kernel
theorem dX1_count_1 : decode cX1_count 1 = .ok (.iload_n 1, 1) := by decide +kernel
theorem dX1_count_2 : decode cX1_count 2 = .ok (.iload_n 2, 1) := by decide +kernel
theorem dX1_count_3 : decode cX1_count 3 = .ok (.iload_n 3, 1) := by decide +kernel
theorem dX1_count_4 : decode cX1_count 4 = .ok (.iload 4, 2) := by decide +kernel
theorem dX1_count_6 : decode cX1_count 6 = .ok (.invokevirtual 65, 3) := by decide +kernel
theorem dX1_count_9 : decode cX1_count 9 = .ok (.ifCond .ne 7, 3) := by decide +kernel
theorem dX1_count_12 : decode cX1_count 12 = .ok (.sipush (-1000), 3) := by decide +kernel
theorem dX1_count_15 : decode cX1_count 15 = .ok (.ireturn, 1) := by decide +kernel
theorem dX1_count_16 : decode cX1_count 16 = .ok (.iconst 0, 1) := by decide +kernel
theorem dX1_count_17 : decode cX1_count 17 = .ok (.istore 5, 2) := by decide +kernel
theorem dX1_count_19 : decode cX1_count 19 = .ok (.iconst 0, 1) := by decide +kernel
theorem dX1_count_20 : decode cX1_count 20 = .ok (.istore 6, 2) := by decide +kernel
theorem dX1_count_22 : decode cX1_count 22 = .ok (.iload 6, 2) := by decide +kernel
theorem dX1_count_24 : decode cX1_count 24 = .ok (.bipush 6, 2) := by decide +kernel
theorem dX1_count_26 : decode cX1_count 26 = .ok (.if_icmp .ge 38, 3) := by decide +kernel
theorem dX1_count_29 : decode cX1_count 29 = .ok (.iload 5, 2) := by decide +kernel
theorem dX1_count_31 : decode cX1_count 31 = .ok (.aload_n 0, 1) := by decide +kernel
theorem dX1_count_32 : decode cX1_count 32 = .ok (.iload_n 1, 1) := by decide +kernel
theorem dX1_count_33 : decode cX1_count 33 = .ok (.iload_n 2, 1) := by decide +kernel
theorem dX1_count_34 : decode cX1_count 34 = .ok (.aload_n 0, 1) := by decide +kernel
theorem dX1_count_35 : decode cX1_count 35 = .ok (.iload_n 2, 1) := by decide +kernel
theorem dX1_count_36 : decode cX1_count 36 = .ok (.iload_n 3, 1) := by decide +kernel
theorem dX1_count_37 : decode cX1_count 37 = .ok (.iload 6, 2) := by decide +kernel
theorem dX1_count_39 : decode cX1_count 39 = .ok (.invokevirtual 57, 3) := by decide +kernel
theorem dX1_count_42 : decode cX1_count 42 = .ok (.iload 4, 2) := by decide +kernel
theorem dX1_count_44 : decode cX1_count 44 = .ok (.invokevirtual 61, 3) := by decide +kernel
theorem dX1_count_47 : decode cX1_count 47 = .ok (.ifCond .eq 7, 3) := by decide +kernel
theorem dX1_count_50 : decode cX1_count 50 = .ok (.iconst 1, 1) := by decide +kernel
theorem dX1_count_51 : decode cX1_count 51 = .ok (.goto 4, 3) := by decide +kernel
theorem dX1_count_54 : decode cX1_count 54 = .ok (.iconst 0, 1) := by decide +kernel
theorem dX1_count_55 : decode cX1_count 55 = .ok (.iadd, 1) := by decide +kernel
theorem dX1_count_56 : decode cX1_count 56 = .ok (.istore 5, 2) := by decide +kernel
theorem dX1_count_58 : decode cX1_count 58 = .ok (.iinc 6 1, 3) := by decide +kernel
theorem dX1_count_61 : decode cX1_count 61 = .ok (.goto (-39), 3) := by decide +kernel
theorem dX1_count_64 : decode cX1_count 64 = .ok (.iload 5, 2) := by decide +kernel
theorem dX1_count_66 : decode cX1_count 66 = .ok (.ireturn, 1) := by decide +kernel
set_option maxRecDepth 20000 in
theorem ggX1_turned_X1_isAskedOf : GoodIn wsX1_turned wsX1_isAskedOf := goodIn_r _ [5, 6, 7, 8, 4, 9, 10, 11, 12, 13, 14, 15, 16, 17, 18, 19, 20, 36, 37, 38, 39, 40, 41, 42, 43] (by decide +kernel) (by decide +kernel)
set_option maxRecDepth 20000 in
theorem gX1_turned_X1_isAskedOf : GoodIn wsX1_turned (wsV RX1 65 RX1 yX1_isAskedOf wsX1_isAskedOf) := goodIn_app (goodIn_of _ (by decide +kernel)) ggX1_turned_X1_isAskedOf
set_option maxRecDepth 20000 in
theorem ggX1_turned_X1_code : GoodIn wsX1_turned wsX1_code := goodIn_r _ [24, 25, 26, 27, 28, 29, 4, 30, 36, 37, 38, 39, 40, 41, 42, 43] (by decide +kernel) (by decide +kernel)
set_option maxRecDepth 20000 in
theorem gX1_turned_X1_code : GoodIn wsX1_turned (wsV RX1 57 RX1 yX1_code wsX1_code) := goodIn_app (goodIn_of _ (by decide +kernel)) ggX1_turned_X1_code
set_option maxRecDepth 20000 in
theorem ggX1_turned_X1_fit : GoodIn wsX1_turned wsX1_fit := goodIn_r _ [34, 35, 28, 29, 4, 30, 36, 37, 38, 39, 40, 41, 42, 43] (by decide +kernel) (by decide +kernel)
set_option maxRecDepth 20000 in
theorem gX1_turned_X1_fit : GoodIn wsX1_turned (wsV RX1 61 RX1 yX1_fit wsX1_fit) := goodIn_app (goodIn_of _ (by decide +kernel)) ggX1_turned_X1_fit
theorem dX1_turned_0 : decode cX1_turned 0 = .ok (.aload_n 0, 1) := by decide +kernel
theorem dX1_turned_1 : decode cX1_turned 1 = .ok (.iload_n 1, 1) := by decide +kernel
theorem dX1_turned_2 : decode cX1_turned 2 = .ok (.iload_n 2, 1) := by decide +kernel
theorem dX1_turned_3 : decode cX1_turned 3 = .ok (.iload_n 3, 1) := by decide +kernel
theorem dX1_turned_4 : decode cX1_turned 4 = .ok (.iload 4, 2) := by decide +kernel
theorem dX1_turned_6 : decode cX1_turned 6 = .ok (.invokevirtual 65, 3) := by decide +kernel
theorem dX1_turned_9 : decode cX1_turned 9 = .ok (.ifCond .ne 7, 3) := by decide +kernel
theorem dX1_turned_12 : decode cX1_turned 12 = .ok (.sipush (-1000), 3) := by decide +kernel
theorem dX1_turned_15 : decode cX1_turned 15 = .ok (.ireturn, 1) := by decide +kernel
theorem dX1_turned_16 : decode cX1_turned 16 = .ok (.iconst 0, 1) := by decide +kernel
theorem dX1_turned_17 : decode cX1_turned 17 = .ok (.istore 5, 2) := by decide +kernel
theorem dX1_turned_19 : decode cX1_turned 19 = .ok (.iconst 0, 1) := by decide +kernel
theorem dX1_turned_20 : decode cX1_turned 20 = .ok (.istore 6, 2) := by decide +kernel
theorem dX1_turned_22 : decode cX1_turned 22 = .ok (.iload 6, 2) := by decide +kernel
theorem dX1_turned_24 : decode cX1_turned 24 = .ok (.bipush 6, 2) := by decide +kernel
theorem dX1_turned_26 : decode cX1_turned 26 = .ok (.if_icmp .ge 38, 3) := by decide +kernel
theorem dX1_turned_29 : decode cX1_turned 29 = .ok (.iload 5, 2) := by decide +kernel
theorem dX1_turned_31 : decode cX1_turned 31 = .ok (.aload_n 0, 1) := by decide +kernel
theorem dX1_turned_32 : decode cX1_turned 32 = .ok (.iload_n 1, 1) := by decide +kernel
theorem dX1_turned_33 : decode cX1_turned 33 = .ok (.iload_n 2, 1) := by decide +kernel
theorem dX1_turned_34 : decode cX1_turned 34 = .ok (.iload 4, 2) := by decide +kernel
theorem dX1_turned_36 : decode cX1_turned 36 = .ok (.aload_n 0, 1) := by decide +kernel
theorem dX1_turned_37 : decode cX1_turned 37 = .ok (.iload_n 2, 1) := by decide +kernel
theorem dX1_turned_38 : decode cX1_turned 38 = .ok (.iload_n 3, 1) := by decide +kernel
theorem dX1_turned_39 : decode cX1_turned 39 = .ok (.iload 6, 2) := by decide +kernel
theorem dX1_turned_41 : decode cX1_turned 41 = .ok (.invokevirtual 57, 3) := by decide +kernel
theorem dX1_turned_44 : decode cX1_turned 44 = .ok (.invokevirtual 61, 3) := by decide +kernel
theorem dX1_turned_47 : decode cX1_turned 47 = .ok (.ifCond .eq 7, 3) := by decide +kernel
theorem dX1_turned_50 : decode cX1_turned 50 = .ok (.iconst 1, 1) := by decide +kernel
theorem dX1_turned_51 : decode cX1_turned 51 = .ok (.goto 4, 3) := by decide +kernel
theorem dX1_turned_54 : decode cX1_turned 54 = .ok (.iconst 0, 1) := by decide +kernel
theorem dX1_turned_55 : decode cX1_turned 55 = .ok (.iadd, 1) := by decide +kernel
theorem dX1_turned_56 : decode cX1_turned 56 = .ok (.istore 5, 2) := by decide +kernel
theorem dX1_turned_58 : decode cX1_turned 58 = .ok (.iinc 6 1, 3) := by decide +kernel
theorem dX1_turned_61 : decode cX1_turned 61 = .ok (.goto (-39), 3) := by decide +kernel
theorem dX1_turned_64 : decode cX1_turned 64 = .ok (.iload 5, 2) := by decide +kernel
theorem dX1_turned_66 : decode cX1_turned 66 = .ok (.ireturn, 1) := by decide +kernel
set_option maxRecDepth 20000 in
theorem ggX1_unfit_X1_code : GoodIn wsX1_unfit wsX1_code := goodIn_r _ [5, 6, 7, 8, 9, 10, 4, 11, 17, 18, 19, 20, 21, 22, 23, 24] (by decide +kernel) (by decide +kernel)
set_option maxRecDepth 20000 in
theorem gX1_unfit_X1_code : GoodIn wsX1_unfit (wsV RX1 57 RX1 yX1_code wsX1_code) := goodIn_app (goodIn_of _ (by decide +kernel)) ggX1_unfit_X1_code
set_option maxRecDepth 20000 in
theorem ggX1_unfit_X1_fit : GoodIn wsX1_unfit wsX1_fit := goodIn_r _ [15, 16, 9, 10, 4, 11, 17, 18, 19, 20, 21, 22, 23, 24] (by decide +kernel) (by decide +kernel)
set_option maxRecDepth 20000 in
theorem gX1_unfit_X1_fit : GoodIn wsX1_unfit (wsV RX1 61 RX1 yX1_fit wsX1_fit) := goodIn_app (goodIn_of _ (by decide +kernel)) ggX1_unfit_X1_fit
theorem dX1_unfit_0 : decode cX1_unfit 0 = .ok (.iload 4, 2) := by decide +kernel
theorem dX1_unfit_2 : decode cX1_unfit 2 = .ok (.istore 6, 2) := by decide +kernel
theorem dX1_unfit_4 : decode cX1_unfit 4 = .ok (.iload 6, 2) := by decide +kernel
theorem dX1_unfit_6 : decode cX1_unfit 6 = .ok (.bipush 6, 2) := by decide +kernel
theorem dX1_unfit_8 : decode cX1_unfit 8 = .ok (.if_icmp .ge 28, 3) := by decide +kernel
theorem dX1_unfit_11 : decode cX1_unfit 11 = .ok (.aload_n 0, 1) := by decide +kernel
theorem dX1_unfit_12 : decode cX1_unfit 12 = .ok (.iload_n 1, 1) := by decide +kernel
theorem dX1_unfit_13 : decode cX1_unfit 13 = .ok (.iload_n 2, 1) := by decide +kernel
theorem dX1_unfit_14 : decode cX1_unfit 14 = .ok (.aload_n 0, 1) := by decide +kernel
theorem dX1_unfit_15 : decode cX1_unfit 15 = .ok (.iload_n 2, 1) := by decide +kernel
theorem dX1_unfit_16 : decode cX1_unfit 16 = .ok (.iload_n 3, 1) := by decide +kernel
theorem dX1_unfit_17 : decode cX1_unfit 17 = .ok (.iload 6, 2) := by decide +kernel
theorem dX1_unfit_19 : decode cX1_unfit 19 = .ok (.invokevirtual 57, 3) := by decide +kernel
theorem dX1_unfit_22 : decode cX1_unfit 22 = .ok (.iload 5, 2) := by decide +kernel
theorem dX1_unfit_24 : decode cX1_unfit 24 = .ok (.invokevirtual 61, 3) := by decide +kernel
theorem dX1_unfit_27 : decode cX1_unfit 27 = .ok (.ifCond .ne 9, 3) := by decide +kernel
theorem dX1_unfit_30 : decode cX1_unfit 30 = .ok (.iinc 6 1, 3) := by decide +kernel
theorem dX1_unfit_33 : decode cX1_unfit 33 = .ok (.goto (-29), 3) := by decide +kernel
theorem dX1_unfit_36 : decode cX1_unfit 36 = .ok (.iload 6, 2) := by decide +kernel
theorem dX1_unfit_38 : decode cX1_unfit 38 = .ok (.iload 4, 2) := by decide +kernel
theorem dX1_unfit_40 : decode cX1_unfit 40 = .ok (.isub, 1) := by decide +kernel
theorem dX1_unfit_41 : decode cX1_unfit 41 = .ok (.ireturn, 1) := by decide +kernel
set_option maxRecDepth 20000 in
theorem ggX1_longest_X1_isAskedOf : GoodIn wsX1_longest wsX1_isAskedOf := goodIn_r _ [5, 6, 7, 8, 4, 9, 10, 11, 12, 13, 14, 15, 16, 17, 18, 19, 20, 40, 41, 42, 43, 44, 45, 46, 47] (by decide +kernel) (by decide +kernel)
set_option maxRecDepth 20000 in
theorem gX1_longest_X1_isAskedOf : GoodIn wsX1_longest (wsV RX1 65 RX1 yX1_isAskedOf wsX1_isAskedOf) := goodIn_app (goodIn_of _ (by decide +kernel)) ggX1_longest_X1_isAskedOf
set_option maxRecDepth 20000 in
theorem ggX1_longest_X1_unfit : GoodIn wsX1_longest wsX1_unfit := goodIn_r _ [24, 25, 26, 27, 4, 28, 29, 30, 31, 32, 33, 34, 35, 36, 37, 38, 39, 40, 41, 42, 43, 44, 45, 46, 47] (by decide +kernel) (by decide +kernel)
set_option maxRecDepth 20000 in
theorem gX1_longest_X1_unfit : GoodIn wsX1_longest (wsV RX1 68 RX1 yX1_unfit wsX1_unfit) := goodIn_app (goodIn_of _ (by decide +kernel)) ggX1_longest_X1_unfit
theorem dX1_longest_0 : decode cX1_longest 0 = .ok (.aload_n 0, 1) := by decide +kernel
theorem dX1_longest_1 : decode cX1_longest 1 = .ok (.iload_n 1, 1) := by decide +kernel
theorem dX1_longest_2 : decode cX1_longest 2 = .ok (.iload_n 2, 1) := by decide +kernel
theorem dX1_longest_3 : decode cX1_longest 3 = .ok (.iload_n 3, 1) := by decide +kernel
theorem dX1_longest_4 : decode cX1_longest 4 = .ok (.iload 4, 2) := by decide +kernel
theorem dX1_longest_6 : decode cX1_longest 6 = .ok (.invokevirtual 65, 3) := by decide +kernel
theorem dX1_longest_9 : decode cX1_longest 9 = .ok (.ifCond .ne 7, 3) := by decide +kernel
theorem dX1_longest_12 : decode cX1_longest 12 = .ok (.sipush (-1000), 3) := by decide +kernel
theorem dX1_longest_15 : decode cX1_longest 15 = .ok (.ireturn, 1) := by decide +kernel
theorem dX1_longest_16 : decode cX1_longest 16 = .ok (.iconst 0, 1) := by decide +kernel
theorem dX1_longest_17 : decode cX1_longest 17 = .ok (.istore 5, 2) := by decide +kernel
theorem dX1_longest_19 : decode cX1_longest 19 = .ok (.iconst 0, 1) := by decide +kernel
theorem dX1_longest_20 : decode cX1_longest 20 = .ok (.istore 6, 2) := by decide +kernel
theorem dX1_longest_22 : decode cX1_longest 22 = .ok (.iload 6, 2) := by decide +kernel
theorem dX1_longest_24 : decode cX1_longest 24 = .ok (.bipush 6, 2) := by decide +kernel
theorem dX1_longest_26 : decode cX1_longest 26 = .ok (.if_icmp .ge 38, 3) := by decide +kernel
theorem dX1_longest_29 : decode cX1_longest 29 = .ok (.aload_n 0, 1) := by decide +kernel
theorem dX1_longest_30 : decode cX1_longest 30 = .ok (.iload_n 1, 1) := by decide +kernel
theorem dX1_longest_31 : decode cX1_longest 31 = .ok (.iload_n 2, 1) := by decide +kernel
theorem dX1_longest_32 : decode cX1_longest 32 = .ok (.iload_n 3, 1) := by decide +kernel
theorem dX1_longest_33 : decode cX1_longest 33 = .ok (.iload 6, 2) := by decide +kernel
theorem dX1_longest_35 : decode cX1_longest 35 = .ok (.iload 4, 2) := by decide +kernel
theorem dX1_longest_37 : decode cX1_longest 37 = .ok (.invokevirtual 68, 3) := by decide +kernel
theorem dX1_longest_40 : decode cX1_longest 40 = .ok (.istore 7, 2) := by decide +kernel
theorem dX1_longest_42 : decode cX1_longest 42 = .ok (.iload 7, 2) := by decide +kernel
theorem dX1_longest_44 : decode cX1_longest 44 = .ok (.iload 5, 2) := by decide +kernel
theorem dX1_longest_46 : decode cX1_longest 46 = .ok (.if_icmp .le 8, 3) := by decide +kernel
theorem dX1_longest_49 : decode cX1_longest 49 = .ok (.iload 7, 2) := by decide +kernel
theorem dX1_longest_51 : decode cX1_longest 51 = .ok (.goto 5, 3) := by decide +kernel
theorem dX1_longest_54 : decode cX1_longest 54 = .ok (.iload 5, 2) := by decide +kernel
theorem dX1_longest_56 : decode cX1_longest 56 = .ok (.istore 5, 2) := by decide +kernel
theorem dX1_longest_58 : decode cX1_longest 58 = .ok (.iinc 6 1, 3) := by decide +kernel
theorem dX1_longest_61 : decode cX1_longest 61 = .ok (.goto (-39), 3) := by decide +kernel
theorem dX1_longest_64 : decode cX1_longest 64 = .ok (.iload 5, 2) := by decide +kernel
theorem dX1_longest_66 : decode cX1_longest 66 = .ok (.ireturn, 1) := by decide +kernel
set_option maxRecDepth 20000 in
theorem ggX1_skip_X1_isAskedOf : GoodIn wsX1_skip wsX1_isAskedOf := goodIn_r _ [5, 6, 7, 8, 4, 9, 10, 11, 12, 13, 14, 15, 16, 17, 18, 19, 20, 39, 40, 41, 42, 43, 44, 45, 46] (by decide +kernel) (by decide +kernel)
set_option maxRecDepth 20000 in
theorem gX1_skip_X1_isAskedOf : GoodIn wsX1_skip (wsV RX1 65 RX1 yX1_isAskedOf wsX1_isAskedOf) := goodIn_app (goodIn_of _ (by decide +kernel)) ggX1_skip_X1_isAskedOf
set_option maxRecDepth 20000 in
theorem ggX1_skip_X1_isRound : GoodIn wsX1_skip wsX1_isRound := goodIn_r _ [23, 10, 11, 4, 12] (by decide +kernel) (by decide +kernel)
set_option maxRecDepth 20000 in
theorem gX1_skip_X1_isRound : GoodIn wsX1_skip (va_wsS RX1 54 yX1_isRound wsX1_isRound) := goodIn_app (goodIn_of _ (by decide +kernel)) ggX1_skip_X1_isRound
set_option maxRecDepth 20000 in
theorem ggX1_skip_X1_code : GoodIn wsX1_skip wsX1_code := goodIn_r _ [27, 28, 29, 30, 31, 32, 4, 33, 39, 40, 41, 42, 43, 44, 45, 46] (by decide +kernel) (by decide +kernel)
set_option maxRecDepth 20000 in
theorem gX1_skip_X1_code : GoodIn wsX1_skip (wsV RX1 57 RX1 yX1_code wsX1_code) := goodIn_app (goodIn_of _ (by decide +kernel)) ggX1_skip_X1_code
set_option maxRecDepth 20000 in
theorem ggX1_skip_X1_fit : GoodIn wsX1_skip wsX1_fit := goodIn_r _ [37, 38, 31, 32, 4, 33, 39, 40, 41, 42, 43, 44, 45, 46] (by decide +kernel) (by decide +kernel)
set_option maxRecDepth 20000 in
theorem gX1_skip_X1_fit : GoodIn wsX1_skip (wsV RX1 61 RX1 yX1_fit wsX1_fit) := goodIn_app (goodIn_of _ (by decide +kernel)) ggX1_skip_X1_fit
theorem dX1_skip_0 : decode cX1_skip 0 = .ok (.aload_n 0, 1) := by decide +kernel
theorem dX1_skip_1 : decode cX1_skip 1 = .ok (.iload_n 1, 1) := by decide +kernel
theorem dX1_skip_2 : decode cX1_skip 2 = .ok (.iload_n 2, 1) := by decide +kernel
theorem dX1_skip_3 : decode cX1_skip 3 = .ok (.iload_n 3, 1) := by decide +kernel
theorem dX1_skip_4 : decode cX1_skip 4 = .ok (.iload 5, 2) := by decide +kernel
theorem dX1_skip_6 : decode cX1_skip 6 = .ok (.invokevirtual 65, 3) := by decide +kernel
theorem dX1_skip_9 : decode cX1_skip 9 = .ok (.ifCond .eq 11, 3) := by decide +kernel
theorem dX1_skip_12 : decode cX1_skip 12 = .ok (.iload 4, 2) := by decide +kernel
theorem dX1_skip_14 : decode cX1_skip 14 = .ok (.invokestatic 54, 3) := by decide +kernel
theorem dX1_skip_17 : decode cX1_skip 17 = .ok (.ifCond .ne 7, 3) := by decide +kernel
theorem dX1_skip_20 : decode cX1_skip 20 = .ok (.sipush (-1000), 3) := by decide +kernel
theorem dX1_skip_23 : decode cX1_skip 23 = .ok (.ireturn, 1) := by decide +kernel
theorem dX1_skip_24 : decode cX1_skip 24 = .ok (.bipush 6, 2) := by decide +kernel
theorem dX1_skip_26 : decode cX1_skip 26 = .ok (.istore 6, 2) := by decide +kernel
theorem dX1_skip_28 : decode cX1_skip 28 = .ok (.iconst 5, 1) := by decide +kernel
theorem dX1_skip_29 : decode cX1_skip 29 = .ok (.istore 7, 2) := by decide +kernel
theorem dX1_skip_31 : decode cX1_skip 31 = .ok (.iload 7, 2) := by decide +kernel
theorem dX1_skip_33 : decode cX1_skip 33 = .ok (.iload 4, 2) := by decide +kernel
theorem dX1_skip_35 : decode cX1_skip 35 = .ok (.if_icmp .lt 37, 3) := by decide +kernel
theorem dX1_skip_38 : decode cX1_skip 38 = .ok (.aload_n 0, 1) := by decide +kernel
theorem dX1_skip_39 : decode cX1_skip 39 = .ok (.iload_n 1, 1) := by decide +kernel
theorem dX1_skip_40 : decode cX1_skip 40 = .ok (.iload_n 2, 1) := by decide +kernel
theorem dX1_skip_41 : decode cX1_skip 41 = .ok (.aload_n 0, 1) := by decide +kernel
theorem dX1_skip_42 : decode cX1_skip 42 = .ok (.iload_n 2, 1) := by decide +kernel
theorem dX1_skip_43 : decode cX1_skip 43 = .ok (.iload_n 3, 1) := by decide +kernel
theorem dX1_skip_44 : decode cX1_skip 44 = .ok (.iload 7, 2) := by decide +kernel
theorem dX1_skip_46 : decode cX1_skip 46 = .ok (.invokevirtual 57, 3) := by decide +kernel
theorem dX1_skip_49 : decode cX1_skip 49 = .ok (.iload 5, 2) := by decide +kernel
theorem dX1_skip_51 : decode cX1_skip 51 = .ok (.invokevirtual 61, 3) := by decide +kernel
theorem dX1_skip_54 : decode cX1_skip 54 = .ok (.ifCond .eq 8, 3) := by decide +kernel
theorem dX1_skip_57 : decode cX1_skip 57 = .ok (.iload 6, 2) := by decide +kernel
theorem dX1_skip_59 : decode cX1_skip 59 = .ok (.goto 5, 3) := by decide +kernel
theorem dX1_skip_62 : decode cX1_skip 62 = .ok (.iload 7, 2) := by decide +kernel
theorem dX1_skip_64 : decode cX1_skip 64 = .ok (.istore 6, 2) := by decide +kernel
theorem dX1_skip_66 : decode cX1_skip 66 = .ok (.iinc 7 (-1), 3) := by decide +kernel
theorem dX1_skip_69 : decode cX1_skip 69 = .ok (.goto (-38), 3) := by decide +kernel
theorem dX1_skip_72 : decode cX1_skip 72 = .ok (.iload 6, 2) := by decide +kernel
theorem dX1_skip_74 : decode cX1_skip 74 = .ok (.ireturn, 1) := by decide +kernel
set_option maxRecDepth 20000 in
theorem ggX1_pick_X1_isAskedOf : GoodIn wsX1_pick wsX1_isAskedOf := goodIn_r _ [5, 6, 7, 8, 4, 9, 10, 11, 12, 13, 14, 15, 16, 17, 18, 19, 20, 36, 37, 38, 39, 40, 41, 42, 43] (by decide +kernel) (by decide +kernel)
set_option maxRecDepth 20000 in
theorem gX1_pick_X1_isAskedOf : GoodIn wsX1_pick (wsV RX1 65 RX1 yX1_isAskedOf wsX1_isAskedOf) := goodIn_app (goodIn_of _ (by decide +kernel)) ggX1_pick_X1_isAskedOf
set_option maxRecDepth 20000 in
theorem ggX1_pick_X1_code : GoodIn wsX1_pick wsX1_code := goodIn_r _ [24, 25, 26, 27, 28, 29, 4, 30, 36, 37, 38, 39, 40, 41, 42, 43] (by decide +kernel) (by decide +kernel)
set_option maxRecDepth 20000 in
theorem gX1_pick_X1_code : GoodIn wsX1_pick (wsV RX1 57 RX1 yX1_code wsX1_code) := goodIn_app (goodIn_of _ (by decide +kernel)) ggX1_pick_X1_code
set_option maxRecDepth 20000 in
theorem ggX1_pick_X1_fit : GoodIn wsX1_pick wsX1_fit := goodIn_r _ [34, 35, 28, 29, 4, 30, 36, 37, 38, 39, 40, 41, 42, 43] (by decide +kernel) (by decide +kernel)
set_option maxRecDepth 20000 in
theorem gX1_pick_X1_fit : GoodIn wsX1_pick (wsV RX1 61 RX1 yX1_fit wsX1_fit) := goodIn_app (goodIn_of _ (by decide +kernel)) ggX1_pick_X1_fit
theorem dX1_pick_0 : decode cX1_pick 0 = .ok (.aload_n 0, 1) := by decide +kernel
theorem dX1_pick_1 : decode cX1_pick 1 = .ok (.iload_n 1, 1) := by decide +kernel
theorem dX1_pick_2 : decode cX1_pick 2 = .ok (.iload_n 2, 1) := by decide +kernel
theorem dX1_pick_3 : decode cX1_pick 3 = .ok (.iload_n 3, 1) := by decide +kernel
theorem dX1_pick_4 : decode cX1_pick 4 = .ok (.iload 4, 2) := by decide +kernel
theorem dX1_pick_6 : decode cX1_pick 6 = .ok (.invokevirtual 65, 3) := by decide +kernel
theorem dX1_pick_9 : decode cX1_pick 9 = .ok (.ifCond .ne 7, 3) := by decide +kernel
theorem dX1_pick_12 : decode cX1_pick 12 = .ok (.sipush (-1000), 3) := by decide +kernel
theorem dX1_pick_15 : decode cX1_pick 15 = .ok (.ireturn, 1) := by decide +kernel
theorem dX1_pick_16 : decode cX1_pick 16 = .ok (.iload 4, 2) := by decide +kernel
theorem dX1_pick_18 : decode cX1_pick 18 = .ok (.istore 5, 2) := by decide +kernel
theorem dX1_pick_20 : decode cX1_pick 20 = .ok (.iconst 0, 1) := by decide +kernel
theorem dX1_pick_21 : decode cX1_pick 21 = .ok (.istore 6, 2) := by decide +kernel
theorem dX1_pick_23 : decode cX1_pick 23 = .ok (.iload 6, 2) := by decide +kernel
theorem dX1_pick_25 : decode cX1_pick 25 = .ok (.bipush 6, 2) := by decide +kernel
theorem dX1_pick_27 : decode cX1_pick 27 = .ok (.if_icmp .ge 41, 3) := by decide +kernel
theorem dX1_pick_30 : decode cX1_pick 30 = .ok (.aload_n 0, 1) := by decide +kernel
theorem dX1_pick_31 : decode cX1_pick 31 = .ok (.iload_n 2, 1) := by decide +kernel
theorem dX1_pick_32 : decode cX1_pick 32 = .ok (.iload_n 3, 1) := by decide +kernel
theorem dX1_pick_33 : decode cX1_pick 33 = .ok (.iload 6, 2) := by decide +kernel
theorem dX1_pick_35 : decode cX1_pick 35 = .ok (.invokevirtual 57, 3) := by decide +kernel
theorem dX1_pick_38 : decode cX1_pick 38 = .ok (.istore 7, 2) := by decide +kernel
theorem dX1_pick_40 : decode cX1_pick 40 = .ok (.aload_n 0, 1) := by decide +kernel
theorem dX1_pick_41 : decode cX1_pick 41 = .ok (.iload_n 1, 1) := by decide +kernel
theorem dX1_pick_42 : decode cX1_pick 42 = .ok (.iload_n 2, 1) := by decide +kernel
theorem dX1_pick_43 : decode cX1_pick 43 = .ok (.iload 7, 2) := by decide +kernel
theorem dX1_pick_45 : decode cX1_pick 45 = .ok (.iload 5, 2) := by decide +kernel
theorem dX1_pick_47 : decode cX1_pick 47 = .ok (.invokevirtual 61, 3) := by decide +kernel
theorem dX1_pick_50 : decode cX1_pick 50 = .ok (.ifCond .eq 8, 3) := by decide +kernel
theorem dX1_pick_53 : decode cX1_pick 53 = .ok (.iload 7, 2) := by decide +kernel
theorem dX1_pick_55 : decode cX1_pick 55 = .ok (.goto 5, 3) := by decide +kernel
theorem dX1_pick_58 : decode cX1_pick 58 = .ok (.iload 5, 2) := by decide +kernel
theorem dX1_pick_60 : decode cX1_pick 60 = .ok (.istore 5, 2) := by decide +kernel
theorem dX1_pick_62 : decode cX1_pick 62 = .ok (.iinc 6 1, 3) := by decide +kernel
theorem dX1_pick_65 : decode cX1_pick 65 = .ok (.goto (-42), 3) := by decide +kernel
theorem dX1_pick_68 : decode cX1_pick 68 = .ok (.iload 5, 2) := by decide +kernel
theorem dX1_pick_70 : decode cX1_pick 70 = .ok (.ireturn, 1) := by decide +kernel
set_option maxRecDepth 20000 in
theorem ggX1_isLegal_X1_code : GoodIn wsX1_isLegal wsX1_code := goodIn_r _ [6, 7, 8, 9, 10, 11, 5, 12, 18, 19, 20, 21, 22, 23, 24, 25] (by decide +kernel) (by decide +kernel)
set_option maxRecDepth 20000 in
theorem gX1_isLegal_X1_code : GoodIn wsX1_isLegal (wsV RX1 57 RX1 yX1_code wsX1_code) := goodIn_app (goodIn_of _ (by decide +kernel)) ggX1_isLegal_X1_code
set_option maxRecDepth 20000 in
theorem ggX1_isLegal_X1_fit : GoodIn wsX1_isLegal wsX1_fit := goodIn_r _ [16, 17, 10, 11, 5, 12, 18, 19, 20, 21, 22, 23, 24, 25] (by decide +kernel) (by decide +kernel)
set_option maxRecDepth 20000 in
theorem gX1_isLegal_X1_fit : GoodIn wsX1_isLegal (wsV RX1 61 RX1 yX1_fit wsX1_fit) := goodIn_app (goodIn_of _ (by decide +kernel)) ggX1_isLegal_X1_fit
theorem dX1_isLegal_0 : decode cX1_isLegal 0 = .ok (.aload_n 0, 1) := by decide +kernel
theorem dX1_isLegal_1 : decode cX1_isLegal 1 = .ok (.iconst 0, 1) := by decide +kernel
theorem dX1_isLegal_2 : decode cX1_isLegal 2 = .ok (.iload_n 1, 1) := by decide +kernel
theorem dX1_isLegal_3 : decode cX1_isLegal 3 = .ok (.iload_n 2, 1) := by decide +kernel
theorem dX1_isLegal_4 : decode cX1_isLegal 4 = .ok (.invokevirtual 57, 3) := by decide +kernel
theorem dX1_isLegal_7 : decode cX1_isLegal 7 = .ok (.ifCond .eq 27, 3) := by decide +kernel
theorem dX1_isLegal_10 : decode cX1_isLegal 10 = .ok (.aload_n 0, 1) := by decide +kernel
theorem dX1_isLegal_11 : decode cX1_isLegal 11 = .ok (.iconst 2, 1) := by decide +kernel
theorem dX1_isLegal_12 : decode cX1_isLegal 12 = .ok (.iconst 1, 1) := by decide +kernel
theorem dX1_isLegal_13 : decode cX1_isLegal 13 = .ok (.aload_n 0, 1) := by decide +kernel
theorem dX1_isLegal_14 : decode cX1_isLegal 14 = .ok (.iconst 1, 1) := by decide +kernel
theorem dX1_isLegal_15 : decode cX1_isLegal 15 = .ok (.iload_n 1, 1) := by decide +kernel
theorem dX1_isLegal_16 : decode cX1_isLegal 16 = .ok (.iload_n 2, 1) := by decide +kernel
theorem dX1_isLegal_17 : decode cX1_isLegal 17 = .ok (.invokevirtual 57, 3) := by decide +kernel
theorem dX1_isLegal_20 : decode cX1_isLegal 20 = .ok (.aload_n 0, 1) := by decide +kernel
theorem dX1_isLegal_21 : decode cX1_isLegal 21 = .ok (.getfield 29, 3) := by decide +kernel
theorem dX1_isLegal_24 : decode cX1_isLegal 24 = .ok (.invokevirtual 61, 3) := by decide +kernel
theorem dX1_isLegal_27 : decode cX1_isLegal 27 = .ok (.ifCond .ne 7, 3) := by decide +kernel
theorem dX1_isLegal_30 : decode cX1_isLegal 30 = .ok (.iconst 1, 1) := by decide +kernel
theorem dX1_isLegal_31 : decode cX1_isLegal 31 = .ok (.goto 4, 3) := by decide +kernel
theorem dX1_isLegal_34 : decode cX1_isLegal 34 = .ok (.iconst 0, 1) := by decide +kernel
theorem dX1_isLegal_35 : decode cX1_isLegal 35 = .ok (.ireturn, 1) := by decide +kernel
set_option maxRecDepth 20000 in
theorem ggX1_greatest_X1_code : GoodIn wsX1_greatest wsX1_code := goodIn_r _ [5, 6, 7, 8, 9, 10, 4, 11, 22, 23, 24, 25, 26, 27, 28, 29] (by decide +kernel) (by decide +kernel)
set_option maxRecDepth 20000 in
theorem gX1_greatest_X1_code : GoodIn wsX1_greatest (wsV RX1 57 RX1 yX1_code wsX1_code) := goodIn_app (goodIn_of _ (by decide +kernel)) ggX1_greatest_X1_code
set_option maxRecDepth 20000 in
theorem ggX1_greatest_X1_isLegal : GoodIn wsX1_greatest wsX1_isLegal := goodIn_r _ [15, 16, 1, 2, 3, 4, 5, 6, 7, 8, 9, 10, 11, 17, 18, 19, 20, 21, 22, 23, 24, 25, 26, 27, 28, 29] (by decide +kernel) (by decide +kernel)
set_option maxRecDepth 20000 in
theorem gX1_greatest_X1_isLegal : GoodIn wsX1_greatest (wsV RX1 72 RX1 yX1_isLegal wsX1_isLegal) := goodIn_app (goodIn_of _ (by decide +kernel)) ggX1_greatest_X1_isLegal
theorem dX1_greatest_0 : decode cX1_greatest 0 = .ok (.iconst 0, 1) := by decide +kernel
theorem dX1_greatest_1 : decode cX1_greatest 1 = .ok (.istore_n 3, 1) := by decide +kernel
theorem dX1_greatest_2 : decode cX1_greatest 2 = .ok (.iconst 0, 1) := by decide +kernel
theorem dX1_greatest_3 : decode cX1_greatest 3 = .ok (.istore 4, 2) := by decide +kernel
theorem dX1_greatest_5 : decode cX1_greatest 5 = .ok (.iload 4, 2) := by decide +kernel
theorem dX1_greatest_7 : decode cX1_greatest 7 = .ok (.bipush 6, 2) := by decide +kernel
theorem dX1_greatest_9 : decode cX1_greatest 9 = .ok (.if_icmp .ge 44, 3) := by decide +kernel
theorem dX1_greatest_12 : decode cX1_greatest 12 = .ok (.aload_n 0, 1) := by decide +kernel
theorem dX1_greatest_13 : decode cX1_greatest 13 = .ok (.iconst 0, 1) := by decide +kernel
theorem dX1_greatest_14 : decode cX1_greatest 14 = .ok (.iload_n 1, 1) := by decide +kernel
theorem dX1_greatest_15 : decode cX1_greatest 15 = .ok (.iload 4, 2) := by decide +kernel
theorem dX1_greatest_17 : decode cX1_greatest 17 = .ok (.invokevirtual 57, 3) := by decide +kernel
theorem dX1_greatest_20 : decode cX1_greatest 20 = .ok (.istore 5, 2) := by decide +kernel
theorem dX1_greatest_22 : decode cX1_greatest 22 = .ok (.aload_n 0, 1) := by decide +kernel
theorem dX1_greatest_23 : decode cX1_greatest 23 = .ok (.iload_n 1, 1) := by decide +kernel
theorem dX1_greatest_24 : decode cX1_greatest 24 = .ok (.iload 4, 2) := by decide +kernel
theorem dX1_greatest_26 : decode cX1_greatest 26 = .ok (.invokevirtual 72, 3) := by decide +kernel
theorem dX1_greatest_29 : decode cX1_greatest 29 = .ok (.ifCond .eq 18, 3) := by decide +kernel
theorem dX1_greatest_32 : decode cX1_greatest 32 = .ok (.iload 5, 2) := by decide +kernel
theorem dX1_greatest_34 : decode cX1_greatest 34 = .ok (.iload_n 2, 1) := by decide +kernel
theorem dX1_greatest_35 : decode cX1_greatest 35 = .ok (.if_icmp .ge 12, 3) := by decide +kernel
theorem dX1_greatest_38 : decode cX1_greatest 38 = .ok (.iload 5, 2) := by decide +kernel
theorem dX1_greatest_40 : decode cX1_greatest 40 = .ok (.iload_n 3, 1) := by decide +kernel
theorem dX1_greatest_41 : decode cX1_greatest 41 = .ok (.if_icmp .le 6, 3) := by decide +kernel
theorem dX1_greatest_44 : decode cX1_greatest 44 = .ok (.iload 5, 2) := by decide +kernel
theorem dX1_greatest_46 : decode cX1_greatest 46 = .ok (.istore_n 3, 1) := by decide +kernel
theorem dX1_greatest_47 : decode cX1_greatest 47 = .ok (.iinc 4 1, 3) := by decide +kernel
theorem dX1_greatest_50 : decode cX1_greatest 50 = .ok (.goto (-45), 3) := by decide +kernel
theorem dX1_greatest_53 : decode cX1_greatest 53 = .ok (.iload_n 3, 1) := by decide +kernel
theorem dX1_greatest_54 : decode cX1_greatest 54 = .ok (.ireturn, 1) := by decide +kernel
set_option maxRecDepth 20000 in
theorem ggX1_many_X1_isLegal : GoodIn wsX1_many wsX1_isLegal := goodIn_r _ [5, 6, 7, 8, 9, 4, 10, 11, 12, 13, 14, 15, 16, 17, 18, 19, 20, 21, 22, 23, 24, 25, 26, 27, 28, 29] (by decide +kernel) (by decide +kernel)
set_option maxRecDepth 20000 in
theorem gX1_many_X1_isLegal : GoodIn wsX1_many (wsV RX1 72 RX1 yX1_isLegal wsX1_isLegal) := goodIn_app (goodIn_of _ (by decide +kernel)) ggX1_many_X1_isLegal
set_option maxRecDepth 20000 in
theorem ggX1_many_X1_code : GoodIn wsX1_many wsX1_code := goodIn_r _ [10, 11, 12, 13, 14, 15, 4, 16, 22, 23, 24, 25, 26, 27, 28, 29] (by decide +kernel) (by decide +kernel)
set_option maxRecDepth 20000 in
theorem gX1_many_X1_code : GoodIn wsX1_many (wsV RX1 57 RX1 yX1_code wsX1_code) := goodIn_app (goodIn_of _ (by decide +kernel)) ggX1_many_X1_code
theorem dX1_many_0 : decode cX1_many 0 = .ok (.iconst 0, 1) := by decide +kernel
theorem dX1_many_1 : decode cX1_many 1 = .ok (.istore_n 3, 1) := by decide +kernel
theorem dX1_many_2 : decode cX1_many 2 = .ok (.iconst 0, 1) := by decide +kernel
theorem dX1_many_3 : decode cX1_many 3 = .ok (.istore 4, 2) := by decide +kernel
theorem dX1_many_5 : decode cX1_many 5 = .ok (.iload 4, 2) := by decide +kernel
theorem dX1_many_7 : decode cX1_many 7 = .ok (.bipush 6, 2) := by decide +kernel
theorem dX1_many_9 : decode cX1_many 9 = .ok (.if_icmp .ge 39, 3) := by decide +kernel
theorem dX1_many_12 : decode cX1_many 12 = .ok (.iload_n 3, 1) := by decide +kernel
theorem dX1_many_13 : decode cX1_many 13 = .ok (.aload_n 0, 1) := by decide +kernel
theorem dX1_many_14 : decode cX1_many 14 = .ok (.iload_n 1, 1) := by decide +kernel
theorem dX1_many_15 : decode cX1_many 15 = .ok (.iload 4, 2) := by decide +kernel
theorem dX1_many_17 : decode cX1_many 17 = .ok (.invokevirtual 72, 3) := by decide +kernel
theorem dX1_many_20 : decode cX1_many 20 = .ok (.ifCond .eq 19, 3) := by decide +kernel
theorem dX1_many_23 : decode cX1_many 23 = .ok (.aload_n 0, 1) := by decide +kernel
theorem dX1_many_24 : decode cX1_many 24 = .ok (.iconst 0, 1) := by decide +kernel
theorem dX1_many_25 : decode cX1_many 25 = .ok (.iload_n 1, 1) := by decide +kernel
theorem dX1_many_26 : decode cX1_many 26 = .ok (.iload 4, 2) := by decide +kernel
theorem dX1_many_28 : decode cX1_many 28 = .ok (.invokevirtual 57, 3) := by decide +kernel
theorem dX1_many_31 : decode cX1_many 31 = .ok (.iload_n 2, 1) := by decide +kernel
theorem dX1_many_32 : decode cX1_many 32 = .ok (.if_icmp .ne 7, 3) := by decide +kernel
theorem dX1_many_35 : decode cX1_many 35 = .ok (.iconst 1, 1) := by decide +kernel
theorem dX1_many_36 : decode cX1_many 36 = .ok (.goto 4, 3) := by decide +kernel
theorem dX1_many_39 : decode cX1_many 39 = .ok (.iconst 0, 1) := by decide +kernel
theorem dX1_many_40 : decode cX1_many 40 = .ok (.iadd, 1) := by decide +kernel
theorem dX1_many_41 : decode cX1_many 41 = .ok (.istore_n 3, 1) := by decide +kernel
theorem dX1_many_42 : decode cX1_many 42 = .ok (.iinc 4 1, 3) := by decide +kernel
theorem dX1_many_45 : decode cX1_many 45 = .ok (.goto (-40), 3) := by decide +kernel
theorem dX1_many_48 : decode cX1_many 48 = .ok (.iload_n 3, 1) := by decide +kernel
theorem dX1_many_49 : decode cX1_many 49 = .ok (.ireturn, 1) := by decide +kernel
set_option maxRecDepth 20000 in
theorem ggX1_compared_X1_greatest : GoodIn wsX1_compared wsX1_greatest := goodIn_r _ [5, 6, 7, 8, 4, 9, 10, 11, 12, 13, 14, 15, 16, 17, 18, 19, 20, 21, 22, 23, 24, 25, 30, 31, 32, 33, 34, 35, 36, 37] (by decide +kernel) (by decide +kernel)
set_option maxRecDepth 20000 in
theorem gX1_compared_X1_greatest : GoodIn wsX1_compared (wsV RX1 75 RX1 yX1_greatest wsX1_greatest) := goodIn_app (goodIn_of _ (by decide +kernel)) ggX1_compared_X1_greatest
set_option maxRecDepth 20000 in
theorem ggX1_compared_X1_many : GoodIn wsX1_compared wsX1_many := goodIn_r _ [29, 16, 17, 18, 4, 19, 20, 6, 7, 8, 9, 10, 11, 12, 13, 14, 15, 21, 22, 23, 24, 25, 30, 31, 32, 33, 34, 35, 36, 37] (by decide +kernel) (by decide +kernel)
set_option maxRecDepth 20000 in
theorem gX1_compared_X1_many : GoodIn wsX1_compared (wsV RX1 79 RX1 yX1_many wsX1_many) := goodIn_app (goodIn_of _ (by decide +kernel)) ggX1_compared_X1_many
theorem dX1_compared_0 : decode cX1_compared 0 = .ok (.sipush 1201, 3) := by decide +kernel
theorem dX1_compared_3 : decode cX1_compared 3 = .ok (.istore_n 3, 1) := by decide +kernel
theorem dX1_compared_4 : decode cX1_compared 4 = .ok (.iload_n 3, 1) := by decide +kernel
theorem dX1_compared_5 : decode cX1_compared 5 = .ok (.ifCond .le 76, 3) := by decide +kernel
theorem dX1_compared_8 : decode cX1_compared 8 = .ok (.aload_n 0, 1) := by decide +kernel
theorem dX1_compared_9 : decode cX1_compared 9 = .ok (.iload_n 1, 1) := by decide +kernel
theorem dX1_compared_10 : decode cX1_compared 10 = .ok (.iload_n 3, 1) := by decide +kernel
theorem dX1_compared_11 : decode cX1_compared 11 = .ok (.invokevirtual 75, 3) := by decide +kernel
theorem dX1_compared_14 : decode cX1_compared 14 = .ok (.istore 4, 2) := by decide +kernel
theorem dX1_compared_16 : decode cX1_compared 16 = .ok (.aload_n 0, 1) := by decide +kernel
theorem dX1_compared_17 : decode cX1_compared 17 = .ok (.iload_n 2, 1) := by decide +kernel
theorem dX1_compared_18 : decode cX1_compared 18 = .ok (.iload_n 3, 1) := by decide +kernel
theorem dX1_compared_19 : decode cX1_compared 19 = .ok (.invokevirtual 75, 3) := by decide +kernel
theorem dX1_compared_22 : decode cX1_compared 22 = .ok (.istore 5, 2) := by decide +kernel
theorem dX1_compared_24 : decode cX1_compared 24 = .ok (.iload 4, 2) := by decide +kernel
theorem dX1_compared_26 : decode cX1_compared 26 = .ok (.iload 5, 2) := by decide +kernel
theorem dX1_compared_28 : decode cX1_compared 28 = .ok (.if_icmp .le 8, 3) := by decide +kernel
theorem dX1_compared_31 : decode cX1_compared 31 = .ok (.iload 4, 2) := by decide +kernel
theorem dX1_compared_33 : decode cX1_compared 33 = .ok (.goto 5, 3) := by decide +kernel
theorem dX1_compared_36 : decode cX1_compared 36 = .ok (.iload 5, 2) := by decide +kernel
theorem dX1_compared_38 : decode cX1_compared 38 = .ok (.istore_n 3, 1) := by decide +kernel
theorem dX1_compared_39 : decode cX1_compared 39 = .ok (.iload_n 3, 1) := by decide +kernel
theorem dX1_compared_40 : decode cX1_compared 40 = .ok (.ifCond .ne 7, 3) := by decide +kernel
theorem dX1_compared_43 : decode cX1_compared 43 = .ok (.iconst 0, 1) := by decide +kernel
theorem dX1_compared_44 : decode cX1_compared 44 = .ok (.goto 16, 3) := by decide +kernel
theorem dX1_compared_47 : decode cX1_compared 47 = .ok (.aload_n 0, 1) := by decide +kernel
theorem dX1_compared_48 : decode cX1_compared 48 = .ok (.iload_n 1, 1) := by decide +kernel
theorem dX1_compared_49 : decode cX1_compared 49 = .ok (.iload_n 3, 1) := by decide +kernel
theorem dX1_compared_50 : decode cX1_compared 50 = .ok (.invokevirtual 79, 3) := by decide +kernel
theorem dX1_compared_53 : decode cX1_compared 53 = .ok (.aload_n 0, 1) := by decide +kernel
theorem dX1_compared_54 : decode cX1_compared 54 = .ok (.iload_n 2, 1) := by decide +kernel
theorem dX1_compared_55 : decode cX1_compared 55 = .ok (.iload_n 3, 1) := by decide +kernel
theorem dX1_compared_56 : decode cX1_compared 56 = .ok (.invokevirtual 79, 3) := by decide +kernel
theorem dX1_compared_59 : decode cX1_compared 59 = .ok (.isub, 1) := by decide +kernel
theorem dX1_compared_60 : decode cX1_compared 60 = .ok (.istore 6, 2) := by decide +kernel
theorem dX1_compared_62 : decode cX1_compared 62 = .ok (.iload 6, 2) := by decide +kernel
theorem dX1_compared_64 : decode cX1_compared 64 = .ok (.ifCond .eq 14, 3) := by decide +kernel
theorem dX1_compared_67 : decode cX1_compared 67 = .ok (.iload 6, 2) := by decide +kernel
theorem dX1_compared_69 : decode cX1_compared 69 = .ok (.ifCond .le 7, 3) := by decide +kernel
theorem dX1_compared_72 : decode cX1_compared 72 = .ok (.iconst 1, 1) := by decide +kernel
theorem dX1_compared_73 : decode cX1_compared 73 = .ok (.goto 4, 3) := by decide +kernel
theorem dX1_compared_76 : decode cX1_compared 76 = .ok (.iconst (-1), 1) := by decide +kernel
theorem dX1_compared_77 : decode cX1_compared 77 = .ok (.ireturn, 1) := by decide +kernel
theorem dX1_compared_78 : decode cX1_compared 78 = .ok (.goto (-74), 3) := by decide +kernel
theorem dX1_compared_81 : decode cX1_compared 81 = .ok (.iconst 0, 1) := by decide +kernel
theorem dX1_compared_82 : decode cX1_compared 82 = .ok (.ireturn, 1) := by decide +kernel
set_option maxRecDepth 20000 in
theorem ggX1_best_X1_isJumper : GoodIn wsX1_best wsX1_isJumper := goodIn_r _ [5, 6, 7, 8, 4, 9, 34, 35, 36, 37, 38, 39, 40, 41] (by decide +kernel) (by decide +kernel)
set_option maxRecDepth 20000 in
theorem gX1_best_X1_isJumper : GoodIn wsX1_best (wsV RX1 43 RX1 yX1_isJumper wsX1_isJumper) := goodIn_app (goodIn_of _ (by decide +kernel)) ggX1_best_X1_isJumper
set_option maxRecDepth 20000 in
theorem ggX1_best_X1_greatest : GoodIn wsX1_best wsX1_greatest := goodIn_r _ [13, 14, 15, 16, 4, 17, 18, 19, 20, 21, 22, 23, 24, 25, 26, 27, 28, 29, 30, 31, 32, 33, 34, 35, 36, 37, 38, 39, 40, 41] (by decide +kernel) (by decide +kernel)
set_option maxRecDepth 20000 in
theorem gX1_best_X1_greatest : GoodIn wsX1_best (wsV RX1 75 RX1 yX1_greatest wsX1_greatest) := goodIn_app (goodIn_of _ (by decide +kernel)) ggX1_best_X1_greatest
theorem dX1_best_0 : decode cX1_best 0 = .ok (.aload_n 0, 1) := by decide +kernel
theorem dX1_best_1 : decode cX1_best 1 = .ok (.iload_n 1, 1) := by decide +kernel
theorem dX1_best_2 : decode cX1_best 2 = .ok (.invokevirtual 43, 3) := by decide +kernel
theorem dX1_best_5 : decode cX1_best 5 = .ok (.ifCond .eq 14, 3) := by decide +kernel
theorem dX1_best_8 : decode cX1_best 8 = .ok (.aload_n 0, 1) := by decide +kernel
theorem dX1_best_9 : decode cX1_best 9 = .ok (.iload_n 1, 1) := by decide +kernel
theorem dX1_best_10 : decode cX1_best 10 = .ok (.sipush 1201, 3) := by decide +kernel
theorem dX1_best_13 : decode cX1_best 13 = .ok (.invokevirtual 75, 3) := by decide +kernel
theorem dX1_best_16 : decode cX1_best 16 = .ok (.goto 6, 3) := by decide +kernel
theorem dX1_best_19 : decode cX1_best 19 = .ok (.sipush (-1000), 3) := by decide +kernel
theorem dX1_best_22 : decode cX1_best 22 = .ok (.ireturn, 1) := by decide +kernel
set_option maxRecDepth 20000 in
theorem ggX1_ahead_X1_isJumper : GoodIn wsX1_ahead wsX1_isJumper := goodIn_r _ [5, 6, 7, 8, 4, 9, 42, 43, 44, 45, 46, 47, 48, 49] (by decide +kernel) (by decide +kernel)
set_option maxRecDepth 20000 in
theorem gX1_ahead_X1_isJumper : GoodIn wsX1_ahead (wsV RX1 43 RX1 yX1_isJumper wsX1_isJumper) := goodIn_app (goodIn_of _ (by decide +kernel)) ggX1_ahead_X1_isJumper
set_option maxRecDepth 20000 in
theorem ggX1_ahead_X1_compared : GoodIn wsX1_ahead wsX1_compared := goodIn_r _ [13, 14, 15, 16, 4, 17, 18, 19, 20, 21, 22, 23, 24, 25, 26, 27, 28, 29, 30, 31, 32, 33, 34, 35, 36, 37, 38, 39, 40, 41, 42, 43, 44, 45, 46, 47, 48, 49] (by decide +kernel) (by decide +kernel)
set_option maxRecDepth 20000 in
theorem gX1_ahead_X1_compared : GoodIn wsX1_ahead (wsV RX1 82 RX1 yX1_compared wsX1_compared) := goodIn_app (goodIn_of _ (by decide +kernel)) ggX1_ahead_X1_compared
theorem dX1_ahead_0 : decode cX1_ahead 0 = .ok (.aload_n 0, 1) := by decide +kernel
theorem dX1_ahead_1 : decode cX1_ahead 1 = .ok (.iload_n 1, 1) := by decide +kernel
theorem dX1_ahead_2 : decode cX1_ahead 2 = .ok (.invokevirtual 43, 3) := by decide +kernel
theorem dX1_ahead_5 : decode cX1_ahead 5 = .ok (.ifCond .eq 11, 3) := by decide +kernel
theorem dX1_ahead_8 : decode cX1_ahead 8 = .ok (.aload_n 0, 1) := by decide +kernel
theorem dX1_ahead_9 : decode cX1_ahead 9 = .ok (.iload_n 2, 1) := by decide +kernel
theorem dX1_ahead_10 : decode cX1_ahead 10 = .ok (.invokevirtual 43, 3) := by decide +kernel
theorem dX1_ahead_13 : decode cX1_ahead 13 = .ok (.ifCond .ne 7, 3) := by decide +kernel
theorem dX1_ahead_16 : decode cX1_ahead 16 = .ok (.sipush (-1000), 3) := by decide +kernel
theorem dX1_ahead_19 : decode cX1_ahead 19 = .ok (.ireturn, 1) := by decide +kernel
theorem dX1_ahead_20 : decode cX1_ahead 20 = .ok (.aload_n 0, 1) := by decide +kernel
theorem dX1_ahead_21 : decode cX1_ahead 21 = .ok (.iload_n 1, 1) := by decide +kernel
theorem dX1_ahead_22 : decode cX1_ahead 22 = .ok (.iload_n 2, 1) := by decide +kernel
theorem dX1_ahead_23 : decode cX1_ahead 23 = .ok (.invokevirtual 82, 3) := by decide +kernel
theorem dX1_ahead_26 : decode cX1_ahead 26 = .ok (.ifCond .le 7, 3) := by decide +kernel
theorem dX1_ahead_29 : decode cX1_ahead 29 = .ok (.iconst 1, 1) := by decide +kernel
theorem dX1_ahead_30 : decode cX1_ahead 30 = .ok (.goto 4, 3) := by decide +kernel
theorem dX1_ahead_33 : decode cX1_ahead 33 = .ok (.iconst 0, 1) := by decide +kernel
theorem dX1_ahead_34 : decode cX1_ahead 34 = .ok (.ireturn, 1) := by decide +kernel
set_option maxRecDepth 20000 in
theorem ggX1_place_X1_isJumper : GoodIn wsX1_place wsX1_isJumper := goodIn_r _ [6, 1, 7, 8, 5, 9, 46, 47, 48, 49, 50, 51, 52, 53] (by decide +kernel) (by decide +kernel)
set_option maxRecDepth 20000 in
theorem gX1_place_X1_isJumper : GoodIn wsX1_place (wsV RX1 43 RX1 yX1_isJumper wsX1_isJumper) := goodIn_app (goodIn_of _ (by decide +kernel)) ggX1_place_X1_isJumper
set_option maxRecDepth 20000 in
theorem ggX1_place_X1_best : GoodIn wsX1_place wsX1_best := goodIn_r _ [13, 2, 3, 4, 5, 6, 1, 7, 8, 9, 14, 15, 16, 17, 18, 19, 20, 21, 22, 23, 24, 25, 26, 27, 28, 29, 30, 31, 32, 33, 34, 35, 36, 37, 46, 47, 48, 49, 50, 51, 52, 53] (by decide +kernel) (by decide +kernel)
set_option maxRecDepth 20000 in
theorem gX1_place_X1_best : GoodIn wsX1_place (wsV RX1 85 RX1 yX1_best wsX1_best) := goodIn_app (goodIn_of _ (by decide +kernel)) ggX1_place_X1_best
set_option maxRecDepth 20000 in
theorem ggX1_place_X1_compared : GoodIn wsX1_place wsX1_compared := goodIn_r _ [41, 14, 15, 16, 5, 17, 18, 19, 20, 21, 22, 23, 24, 25, 26, 27, 28, 29, 30, 31, 32, 33, 34, 35, 36, 37, 42, 43, 44, 45, 46, 47, 48, 49, 50, 51, 52, 53] (by decide +kernel) (by decide +kernel)
set_option maxRecDepth 20000 in
theorem gX1_place_X1_compared : GoodIn wsX1_place (wsV RX1 82 RX1 yX1_compared wsX1_compared) := goodIn_app (goodIn_of _ (by decide +kernel)) ggX1_place_X1_compared
theorem dX1_place_0 : decode cX1_place 0 = .ok (.aload_n 0, 1) := by decide +kernel
theorem dX1_place_1 : decode cX1_place 1 = .ok (.iload_n 1, 1) := by decide +kernel
theorem dX1_place_2 : decode cX1_place 2 = .ok (.invokevirtual 43, 3) := by decide +kernel
theorem dX1_place_5 : decode cX1_place 5 = .ok (.ifCond .ne 7, 3) := by decide +kernel
theorem dX1_place_8 : decode cX1_place 8 = .ok (.sipush (-1000), 3) := by decide +kernel
theorem dX1_place_11 : decode cX1_place 11 = .ok (.ireturn, 1) := by decide +kernel
theorem dX1_place_12 : decode cX1_place 12 = .ok (.aload_n 0, 1) := by decide +kernel
theorem dX1_place_13 : decode cX1_place 13 = .ok (.iload_n 1, 1) := by decide +kernel
theorem dX1_place_14 : decode cX1_place 14 = .ok (.invokevirtual 85, 3) := by decide +kernel
theorem dX1_place_17 : decode cX1_place 17 = .ok (.ifCond .ne 5, 3) := by decide +kernel
theorem dX1_place_20 : decode cX1_place 20 = .ok (.iconst 0, 1) := by decide +kernel
theorem dX1_place_21 : decode cX1_place 21 = .ok (.ireturn, 1) := by decide +kernel
theorem dX1_place_22 : decode cX1_place 22 = .ok (.iconst 1, 1) := by decide +kernel
theorem dX1_place_23 : decode cX1_place 23 = .ok (.istore_n 2, 1) := by decide +kernel
theorem dX1_place_24 : decode cX1_place 24 = .ok (.iconst 0, 1) := by decide +kernel
theorem dX1_place_25 : decode cX1_place 25 = .ok (.istore_n 3, 1) := by decide +kernel
theorem dX1_place_26 : decode cX1_place 26 = .ok (.iload_n 3, 1) := by decide +kernel
theorem dX1_place_27 : decode cX1_place 27 = .ok (.aload_n 0, 1) := by decide +kernel
theorem dX1_place_28 : decode cX1_place 28 = .ok (.getfield 32, 3) := by decide +kernel
theorem dX1_place_31 : decode cX1_place 31 = .ok (.if_icmp .ge 26, 3) := by decide +kernel
theorem dX1_place_34 : decode cX1_place 34 = .ok (.iload_n 2, 1) := by decide +kernel
theorem dX1_place_35 : decode cX1_place 35 = .ok (.aload_n 0, 1) := by decide +kernel
theorem dX1_place_36 : decode cX1_place 36 = .ok (.iload_n 3, 1) := by decide +kernel
theorem dX1_place_37 : decode cX1_place 37 = .ok (.iload_n 1, 1) := by decide +kernel
theorem dX1_place_38 : decode cX1_place 38 = .ok (.invokevirtual 82, 3) := by decide +kernel
theorem dX1_place_41 : decode cX1_place 41 = .ok (.ifCond .le 7, 3) := by decide +kernel
theorem dX1_place_44 : decode cX1_place 44 = .ok (.iconst 1, 1) := by decide +kernel
theorem dX1_place_45 : decode cX1_place 45 = .ok (.goto 4, 3) := by decide +kernel
theorem dX1_place_48 : decode cX1_place 48 = .ok (.iconst 0, 1) := by decide +kernel
theorem dX1_place_49 : decode cX1_place 49 = .ok (.iadd, 1) := by decide +kernel
theorem dX1_place_50 : decode cX1_place 50 = .ok (.istore_n 2, 1) := by decide +kernel
theorem dX1_place_51 : decode cX1_place 51 = .ok (.iinc 3 1, 3) := by decide +kernel
theorem dX1_place_54 : decode cX1_place 54 = .ok (.goto (-28), 3) := by decide +kernel
theorem dX1_place_57 : decode cX1_place 57 = .ok (.iload_n 2, 1) := by decide +kernel
theorem dX1_place_58 : decode cX1_place 58 = .ok (.ireturn, 1) := by decide +kernel
set_option maxRecDepth 20000 in
theorem ggX1_behind_X1_best : GoodIn wsX1_behind wsX1_best := goodIn_r _ [6, 7, 8, 9, 5, 10, 1, 11, 12, 13, 14, 15, 16, 17, 18, 19, 20, 21, 22, 23, 24, 25, 26, 27, 28, 29, 30, 31, 32, 33, 34, 35, 36, 37, 46, 47, 48, 49, 50, 51, 52, 53] (by decide +kernel) (by decide +kernel)
set_option maxRecDepth 20000 in
theorem gX1_behind_X1_best : GoodIn wsX1_behind (wsV RX1 85 RX1 yX1_best wsX1_best) := goodIn_app (goodIn_of _ (by decide +kernel)) ggX1_behind_X1_best
set_option maxRecDepth 20000 in
theorem ggX1_behind_X1_compared : GoodIn wsX1_behind wsX1_compared := goodIn_r _ [41, 14, 15, 16, 5, 17, 18, 19, 20, 21, 22, 23, 24, 25, 26, 27, 28, 29, 30, 31, 32, 33, 34, 35, 36, 37, 42, 43, 44, 45, 46, 47, 48, 49, 50, 51, 52, 53] (by decide +kernel) (by decide +kernel)
set_option maxRecDepth 20000 in
theorem gX1_behind_X1_compared : GoodIn wsX1_behind (wsV RX1 82 RX1 yX1_compared wsX1_compared) := goodIn_app (goodIn_of _ (by decide +kernel)) ggX1_behind_X1_compared
theorem dX1_behind_0 : decode cX1_behind 0 = .ok (.iconst 0, 1) := by decide +kernel
theorem dX1_behind_1 : decode cX1_behind 1 = .ok (.istore_n 2, 1) := by decide +kernel
theorem dX1_behind_2 : decode cX1_behind 2 = .ok (.aload_n 0, 1) := by decide +kernel
theorem dX1_behind_3 : decode cX1_behind 3 = .ok (.iload_n 1, 1) := by decide +kernel
theorem dX1_behind_4 : decode cX1_behind 4 = .ok (.invokevirtual 85, 3) := by decide +kernel
theorem dX1_behind_7 : decode cX1_behind 7 = .ok (.ifCond .eq 7, 3) := by decide +kernel
theorem dX1_behind_10 : decode cX1_behind 10 = .ok (.iconst 1, 1) := by decide +kernel
theorem dX1_behind_11 : decode cX1_behind 11 = .ok (.goto 4, 3) := by decide +kernel
theorem dX1_behind_14 : decode cX1_behind 14 = .ok (.iconst 0, 1) := by decide +kernel
theorem dX1_behind_15 : decode cX1_behind 15 = .ok (.istore_n 3, 1) := by decide +kernel
theorem dX1_behind_16 : decode cX1_behind 16 = .ok (.iconst 0, 1) := by decide +kernel
theorem dX1_behind_17 : decode cX1_behind 17 = .ok (.istore 4, 2) := by decide +kernel
theorem dX1_behind_19 : decode cX1_behind 19 = .ok (.iload 4, 2) := by decide +kernel
theorem dX1_behind_21 : decode cX1_behind 21 = .ok (.aload_n 0, 1) := by decide +kernel
theorem dX1_behind_22 : decode cX1_behind 22 = .ok (.getfield 32, 3) := by decide +kernel
theorem dX1_behind_25 : decode cX1_behind 25 = .ok (.if_icmp .ge 88, 3) := by decide +kernel
theorem dX1_behind_28 : decode cX1_behind 28 = .ok (.aload_n 0, 1) := by decide +kernel
theorem dX1_behind_29 : decode cX1_behind 29 = .ok (.iload 4, 2) := by decide +kernel
theorem dX1_behind_31 : decode cX1_behind 31 = .ok (.invokevirtual 85, 3) := by decide +kernel
theorem dX1_behind_34 : decode cX1_behind 34 = .ok (.ifCond .eq 7, 3) := by decide +kernel
theorem dX1_behind_37 : decode cX1_behind 37 = .ok (.iconst 1, 1) := by decide +kernel
theorem dX1_behind_38 : decode cX1_behind 38 = .ok (.goto 4, 3) := by decide +kernel
theorem dX1_behind_41 : decode cX1_behind 41 = .ok (.iconst 0, 1) := by decide +kernel
theorem dX1_behind_42 : decode cX1_behind 42 = .ok (.istore 5, 2) := by decide +kernel
theorem dX1_behind_44 : decode cX1_behind 44 = .ok (.iload_n 3, 1) := by decide +kernel
theorem dX1_behind_45 : decode cX1_behind 45 = .ok (.ifCond .eq 18, 3) := by decide +kernel
theorem dX1_behind_48 : decode cX1_behind 48 = .ok (.iload 5, 2) := by decide +kernel
theorem dX1_behind_50 : decode cX1_behind 50 = .ok (.ifCond .eq 13, 3) := by decide +kernel
theorem dX1_behind_53 : decode cX1_behind 53 = .ok (.aload_n 0, 1) := by decide +kernel
theorem dX1_behind_54 : decode cX1_behind 54 = .ok (.iload_n 1, 1) := by decide +kernel
theorem dX1_behind_55 : decode cX1_behind 55 = .ok (.iload 4, 2) := by decide +kernel
theorem dX1_behind_57 : decode cX1_behind 57 = .ok (.invokevirtual 82, 3) := by decide +kernel
theorem dX1_behind_60 : decode cX1_behind 60 = .ok (.goto 21, 3) := by decide +kernel
theorem dX1_behind_63 : decode cX1_behind 63 = .ok (.iload_n 3, 1) := by decide +kernel
theorem dX1_behind_64 : decode cX1_behind 64 = .ok (.ifCond .eq 7, 3) := by decide +kernel
theorem dX1_behind_67 : decode cX1_behind 67 = .ok (.iconst 1, 1) := by decide +kernel
theorem dX1_behind_68 : decode cX1_behind 68 = .ok (.goto 13, 3) := by decide +kernel
theorem dX1_behind_71 : decode cX1_behind 71 = .ok (.iload 5, 2) := by decide +kernel
theorem dX1_behind_73 : decode cX1_behind 73 = .ok (.ifCond .eq 7, 3) := by decide +kernel
theorem dX1_behind_76 : decode cX1_behind 76 = .ok (.iconst (-1), 1) := by decide +kernel
theorem dX1_behind_77 : decode cX1_behind 77 = .ok (.goto 4, 3) := by decide +kernel
theorem dX1_behind_80 : decode cX1_behind 80 = .ok (.iconst 0, 1) := by decide +kernel
theorem dX1_behind_81 : decode cX1_behind 81 = .ok (.istore 6, 2) := by decide +kernel
theorem dX1_behind_83 : decode cX1_behind 83 = .ok (.iload_n 2, 1) := by decide +kernel
theorem dX1_behind_84 : decode cX1_behind 84 = .ok (.iload 6, 2) := by decide +kernel
theorem dX1_behind_86 : decode cX1_behind 86 = .ok (.ifCond .gt 14, 3) := by decide +kernel
theorem dX1_behind_89 : decode cX1_behind 89 = .ok (.iload 6, 2) := by decide +kernel
theorem dX1_behind_91 : decode cX1_behind 91 = .ok (.ifCond .ne 13, 3) := by decide +kernel
theorem dX1_behind_94 : decode cX1_behind 94 = .ok (.iload 4, 2) := by decide +kernel
theorem dX1_behind_96 : decode cX1_behind 96 = .ok (.iload_n 1, 1) := by decide +kernel
theorem dX1_behind_97 : decode cX1_behind 97 = .ok (.if_icmp .ge 7, 3) := by decide +kernel
theorem dX1_behind_100 : decode cX1_behind 100 = .ok (.iconst 1, 1) := by decide +kernel
theorem dX1_behind_101 : decode cX1_behind 101 = .ok (.goto 4, 3) := by decide +kernel
theorem dX1_behind_104 : decode cX1_behind 104 = .ok (.iconst 0, 1) := by decide +kernel
theorem dX1_behind_105 : decode cX1_behind 105 = .ok (.iadd, 1) := by decide +kernel
theorem dX1_behind_106 : decode cX1_behind 106 = .ok (.istore_n 2, 1) := by decide +kernel
theorem dX1_behind_107 : decode cX1_behind 107 = .ok (.iinc 4 1, 3) := by decide +kernel
theorem dX1_behind_110 : decode cX1_behind 110 = .ok (.goto (-91), 3) := by decide +kernel
theorem dX1_behind_113 : decode cX1_behind 113 = .ok (.iload_n 2, 1) := by decide +kernel
theorem dX1_behind_114 : decode cX1_behind 114 = .ok (.ireturn, 1) := by decide +kernel
set_option maxRecDepth 20000 in
theorem ggX1_order_X1_isIn : GoodIn wsX1_order wsX1_isIn := goodIn_r _ [5] (by decide +kernel) (by decide +kernel)
set_option maxRecDepth 20000 in
theorem gX1_order_X1_isIn : GoodIn wsX1_order (va_wsS RX1 35 yX1_isIn wsX1_isIn) := goodIn_app (goodIn_of _ (by decide +kernel)) ggX1_order_X1_isIn
set_option maxRecDepth 20000 in
theorem ggX1_order_X1_behind : GoodIn wsX1_order wsX1_behind := goodIn_r _ [9, 1, 10, 11, 12, 4, 13, 14, 15, 16, 17, 2, 3, 5, 18, 19, 20, 21, 22, 23, 24, 25, 26, 27, 28, 29, 30, 31, 32, 33, 34, 35, 36, 37, 38, 39, 40, 41, 42, 43, 44, 45, 46, 47, 48, 49, 50, 51, 52, 53, 54, 55, 56, 57] (by decide +kernel) (by decide +kernel)
set_option maxRecDepth 20000 in
theorem gX1_order_X1_behind : GoodIn wsX1_order (wsV RX1 88 RX1 yX1_behind wsX1_behind) := goodIn_app (goodIn_of _ (by decide +kernel)) ggX1_order_X1_behind
theorem dX1_order_0 : decode cX1_order 0 = .ok (.iload_n 1, 1) := by decide +kernel
theorem dX1_order_1 : decode cX1_order 1 = .ok (.iconst 0, 1) := by decide +kernel
theorem dX1_order_2 : decode cX1_order 2 = .ok (.aload_n 0, 1) := by decide +kernel
theorem dX1_order_3 : decode cX1_order 3 = .ok (.getfield 32, 3) := by decide +kernel
theorem dX1_order_6 : decode cX1_order 6 = .ok (.iconst 1, 1) := by decide +kernel
theorem dX1_order_7 : decode cX1_order 7 = .ok (.isub, 1) := by decide +kernel
theorem dX1_order_8 : decode cX1_order 8 = .ok (.invokestatic 35, 3) := by decide +kernel
theorem dX1_order_11 : decode cX1_order 11 = .ok (.ifCond .ne 7, 3) := by decide +kernel
theorem dX1_order_14 : decode cX1_order 14 = .ok (.sipush (-1000), 3) := by decide +kernel
theorem dX1_order_17 : decode cX1_order 17 = .ok (.ireturn, 1) := by decide +kernel
theorem dX1_order_18 : decode cX1_order 18 = .ok (.sipush (-1000), 3) := by decide +kernel
theorem dX1_order_21 : decode cX1_order 21 = .ok (.istore_n 2, 1) := by decide +kernel
theorem dX1_order_22 : decode cX1_order 22 = .ok (.iconst 0, 1) := by decide +kernel
theorem dX1_order_23 : decode cX1_order 23 = .ok (.istore_n 3, 1) := by decide +kernel
theorem dX1_order_24 : decode cX1_order 24 = .ok (.iload_n 3, 1) := by decide +kernel
theorem dX1_order_25 : decode cX1_order 25 = .ok (.aload_n 0, 1) := by decide +kernel
theorem dX1_order_26 : decode cX1_order 26 = .ok (.getfield 32, 3) := by decide +kernel
theorem dX1_order_29 : decode cX1_order 29 = .ok (.if_icmp .ge 24, 3) := by decide +kernel
theorem dX1_order_32 : decode cX1_order 32 = .ok (.aload_n 0, 1) := by decide +kernel
theorem dX1_order_33 : decode cX1_order 33 = .ok (.iload_n 3, 1) := by decide +kernel
theorem dX1_order_34 : decode cX1_order 34 = .ok (.invokevirtual 88, 3) := by decide +kernel
theorem dX1_order_37 : decode cX1_order 37 = .ok (.iload_n 1, 1) := by decide +kernel
theorem dX1_order_38 : decode cX1_order 38 = .ok (.if_icmp .ne 7, 3) := by decide +kernel
theorem dX1_order_41 : decode cX1_order 41 = .ok (.iload_n 3, 1) := by decide +kernel
theorem dX1_order_42 : decode cX1_order 42 = .ok (.goto 4, 3) := by decide +kernel
theorem dX1_order_45 : decode cX1_order 45 = .ok (.iload_n 2, 1) := by decide +kernel
theorem dX1_order_46 : decode cX1_order 46 = .ok (.istore_n 2, 1) := by decide +kernel
theorem dX1_order_47 : decode cX1_order 47 = .ok (.iinc 3 1, 3) := by decide +kernel
theorem dX1_order_50 : decode cX1_order 50 = .ok (.goto (-26), 3) := by decide +kernel
theorem dX1_order_53 : decode cX1_order 53 = .ok (.iload_n 2, 1) := by decide +kernel
theorem dX1_order_54 : decode cX1_order 54 = .ok (.ireturn, 1) := by decide +kernel
set_option maxRecDepth 20000 in
theorem ggX1_isNewBest_X1_code : GoodIn wsX1_isNewBest wsX1_code := goodIn_r _ [5, 6, 7, 8, 9, 10, 4, 11, 17, 18, 19, 20, 21, 22, 23, 24] (by decide +kernel) (by decide +kernel)
set_option maxRecDepth 20000 in
theorem gX1_isNewBest_X1_code : GoodIn wsX1_isNewBest (wsV RX1 57 RX1 yX1_code wsX1_code) := goodIn_app (goodIn_of _ (by decide +kernel)) ggX1_isNewBest_X1_code
set_option maxRecDepth 20000 in
theorem ggX1_isNewBest_X1_fit : GoodIn wsX1_isNewBest wsX1_fit := goodIn_r _ [15, 16, 9, 10, 4, 11, 17, 18, 19, 20, 21, 22, 23, 24] (by decide +kernel) (by decide +kernel)
set_option maxRecDepth 20000 in
theorem gX1_isNewBest_X1_fit : GoodIn wsX1_isNewBest (wsV RX1 61 RX1 yX1_fit wsX1_fit) := goodIn_app (goodIn_of _ (by decide +kernel)) ggX1_isNewBest_X1_fit
theorem dX1_isNewBest_0 : decode cX1_isNewBest 0 = .ok (.aload_n 0, 1) := by decide +kernel
theorem dX1_isNewBest_1 : decode cX1_isNewBest 1 = .ok (.iconst 0, 1) := by decide +kernel
theorem dX1_isNewBest_2 : decode cX1_isNewBest 2 = .ok (.iload_n 1, 1) := by decide +kernel
theorem dX1_isNewBest_3 : decode cX1_isNewBest 3 = .ok (.iload_n 2, 1) := by decide +kernel
theorem dX1_isNewBest_4 : decode cX1_isNewBest 4 = .ok (.invokevirtual 57, 3) := by decide +kernel
theorem dX1_isNewBest_7 : decode cX1_isNewBest 7 = .ok (.istore_n 3, 1) := by decide +kernel
theorem dX1_isNewBest_8 : decode cX1_isNewBest 8 = .ok (.iload_n 3, 1) := by decide +kernel
theorem dX1_isNewBest_9 : decode cX1_isNewBest 9 = .ok (.ifCond .eq 7, 3) := by decide +kernel
theorem dX1_isNewBest_12 : decode cX1_isNewBest 12 = .ok (.iconst 1, 1) := by decide +kernel
theorem dX1_isNewBest_13 : decode cX1_isNewBest 13 = .ok (.goto 4, 3) := by decide +kernel
theorem dX1_isNewBest_16 : decode cX1_isNewBest 16 = .ok (.iconst 0, 1) := by decide +kernel
theorem dX1_isNewBest_17 : decode cX1_isNewBest 17 = .ok (.istore 4, 2) := by decide +kernel
theorem dX1_isNewBest_19 : decode cX1_isNewBest 19 = .ok (.iconst 0, 1) := by decide +kernel
theorem dX1_isNewBest_20 : decode cX1_isNewBest 20 = .ok (.istore 5, 2) := by decide +kernel
theorem dX1_isNewBest_22 : decode cX1_isNewBest 22 = .ok (.iload 5, 2) := by decide +kernel
theorem dX1_isNewBest_24 : decode cX1_isNewBest 24 = .ok (.iload_n 2, 1) := by decide +kernel
theorem dX1_isNewBest_25 : decode cX1_isNewBest 25 = .ok (.if_icmp .ge 39, 3) := by decide +kernel
theorem dX1_isNewBest_28 : decode cX1_isNewBest 28 = .ok (.iload 4, 2) := by decide +kernel
theorem dX1_isNewBest_30 : decode cX1_isNewBest 30 = .ok (.ifCond .eq 25, 3) := by decide +kernel
theorem dX1_isNewBest_33 : decode cX1_isNewBest 33 = .ok (.aload_n 0, 1) := by decide +kernel
theorem dX1_isNewBest_34 : decode cX1_isNewBest 34 = .ok (.iconst 3, 1) := by decide +kernel
theorem dX1_isNewBest_35 : decode cX1_isNewBest 35 = .ok (.iconst 0, 1) := by decide +kernel
theorem dX1_isNewBest_36 : decode cX1_isNewBest 36 = .ok (.aload_n 0, 1) := by decide +kernel
theorem dX1_isNewBest_37 : decode cX1_isNewBest 37 = .ok (.iconst 0, 1) := by decide +kernel
theorem dX1_isNewBest_38 : decode cX1_isNewBest 38 = .ok (.iload_n 1, 1) := by decide +kernel
theorem dX1_isNewBest_39 : decode cX1_isNewBest 39 = .ok (.iload 5, 2) := by decide +kernel
theorem dX1_isNewBest_41 : decode cX1_isNewBest 41 = .ok (.invokevirtual 57, 3) := by decide +kernel
theorem dX1_isNewBest_44 : decode cX1_isNewBest 44 = .ok (.iload_n 3, 1) := by decide +kernel
theorem dX1_isNewBest_45 : decode cX1_isNewBest 45 = .ok (.invokevirtual 61, 3) := by decide +kernel
theorem dX1_isNewBest_48 : decode cX1_isNewBest 48 = .ok (.ifCond .ne 7, 3) := by decide +kernel
theorem dX1_isNewBest_51 : decode cX1_isNewBest 51 = .ok (.iconst 1, 1) := by decide +kernel
theorem dX1_isNewBest_52 : decode cX1_isNewBest 52 = .ok (.goto 4, 3) := by decide +kernel
theorem dX1_isNewBest_55 : decode cX1_isNewBest 55 = .ok (.iconst 0, 1) := by decide +kernel
theorem dX1_isNewBest_56 : decode cX1_isNewBest 56 = .ok (.istore 4, 2) := by decide +kernel
theorem dX1_isNewBest_58 : decode cX1_isNewBest 58 = .ok (.iinc 5 1, 3) := by decide +kernel
theorem dX1_isNewBest_61 : decode cX1_isNewBest 61 = .ok (.goto (-39), 3) := by decide +kernel
theorem dX1_isNewBest_64 : decode cX1_isNewBest 64 = .ok (.iload 4, 2) := by decide +kernel
theorem dX1_isNewBest_66 : decode cX1_isNewBest 66 = .ok (.ireturn, 1) := by decide +kernel
set_option maxRecDepth 20000 in
theorem ggX1_verdict_X1_isJumper : GoodIn wsX1_verdict wsX1_isJumper := goodIn_r _ [7, 8, 9, 10, 6, 11, 38, 39, 40, 41, 42, 43, 44, 45] (by decide +kernel) (by decide +kernel)
set_option maxRecDepth 20000 in
theorem gX1_verdict_X1_isJumper : GoodIn wsX1_verdict (wsV RX1 43 RX1 yX1_isJumper wsX1_isJumper) := goodIn_app (goodIn_of _ (by decide +kernel)) ggX1_verdict_X1_isJumper
set_option maxRecDepth 20000 in
theorem ggX1_verdict_X1_isRound : GoodIn wsX1_verdict wsX1_isRound := goodIn_r _ [14, 9, 10, 6, 11] (by decide +kernel) (by decide +kernel)
set_option maxRecDepth 20000 in
theorem gX1_verdict_X1_isRound : GoodIn wsX1_verdict (va_wsS RX1 54 yX1_isRound wsX1_isRound) := goodIn_app (goodIn_of _ (by decide +kernel)) ggX1_verdict_X1_isRound
set_option maxRecDepth 20000 in
theorem ggX1_verdict_X1_code : GoodIn wsX1_verdict wsX1_code := goodIn_r _ [18, 19, 20, 21, 22, 23, 6, 24, 38, 39, 40, 41, 42, 43, 44, 45] (by decide +kernel) (by decide +kernel)
set_option maxRecDepth 20000 in
theorem gX1_verdict_X1_code : GoodIn wsX1_verdict (wsV RX1 57 RX1 yX1_code wsX1_code) := goodIn_app (goodIn_of _ (by decide +kernel)) ggX1_verdict_X1_code
set_option maxRecDepth 20000 in
theorem ggX1_verdict_X1_isLegal : GoodIn wsX1_verdict wsX1_isLegal := goodIn_r _ [28, 2, 15, 16, 17, 6, 18, 19, 20, 21, 22, 23, 24, 29, 30, 31, 32, 33, 38, 39, 40, 41, 42, 43, 44, 45] (by decide +kernel) (by decide +kernel)
set_option maxRecDepth 20000 in
theorem gX1_verdict_X1_isLegal : GoodIn wsX1_verdict (wsV RX1 72 RX1 yX1_isLegal wsX1_isLegal) := goodIn_app (goodIn_of _ (by decide +kernel)) ggX1_verdict_X1_isLegal
set_option maxRecDepth 20000 in
theorem ggX1_verdict_X1_fit : GoodIn wsX1_verdict wsX1_fit := goodIn_r _ [32, 33, 22, 23, 6, 24, 38, 39, 40, 41, 42, 43, 44, 45] (by decide +kernel) (by decide +kernel)
set_option maxRecDepth 20000 in
theorem gX1_verdict_X1_fit : GoodIn wsX1_verdict (wsV RX1 61 RX1 yX1_fit wsX1_fit) := goodIn_app (goodIn_of _ (by decide +kernel)) ggX1_verdict_X1_fit
set_option maxRecDepth 20000 in
theorem ggX1_verdict_X1_isNewBest : GoodIn wsX1_verdict wsX1_isNewBest := goodIn_r _ [37, 15, 16, 17, 6, 18, 19, 20, 21, 22, 23, 24, 29, 30, 31, 32, 33, 38, 39, 40, 41, 42, 43, 44, 45] (by decide +kernel) (by decide +kernel)
set_option maxRecDepth 20000 in
theorem gX1_verdict_X1_isNewBest : GoodIn wsX1_verdict (wsV RX1 91 RX1 yX1_isNewBest wsX1_isNewBest) := goodIn_app (goodIn_of _ (by decide +kernel)) ggX1_verdict_X1_isNewBest
theorem dX1_verdict_0 : decode cX1_verdict 0 = .ok (.aload_n 0, 1) := by decide +kernel
theorem dX1_verdict_1 : decode cX1_verdict 1 = .ok (.iload_n 1, 1) := by decide +kernel
theorem dX1_verdict_2 : decode cX1_verdict 2 = .ok (.invokevirtual 43, 3) := by decide +kernel
theorem dX1_verdict_5 : decode cX1_verdict 5 = .ok (.ifCond .eq 10, 3) := by decide +kernel
theorem dX1_verdict_8 : decode cX1_verdict 8 = .ok (.iload_n 2, 1) := by decide +kernel
theorem dX1_verdict_9 : decode cX1_verdict 9 = .ok (.invokestatic 54, 3) := by decide +kernel
theorem dX1_verdict_12 : decode cX1_verdict 12 = .ok (.ifCond .ne 7, 3) := by decide +kernel
theorem dX1_verdict_15 : decode cX1_verdict 15 = .ok (.sipush (-1000), 3) := by decide +kernel
theorem dX1_verdict_18 : decode cX1_verdict 18 = .ok (.ireturn, 1) := by decide +kernel
theorem dX1_verdict_19 : decode cX1_verdict 19 = .ok (.aload_n 0, 1) := by decide +kernel
theorem dX1_verdict_20 : decode cX1_verdict 20 = .ok (.iconst 0, 1) := by decide +kernel
theorem dX1_verdict_21 : decode cX1_verdict 21 = .ok (.iload_n 1, 1) := by decide +kernel
theorem dX1_verdict_22 : decode cX1_verdict 22 = .ok (.iload_n 2, 1) := by decide +kernel
theorem dX1_verdict_23 : decode cX1_verdict 23 = .ok (.invokevirtual 57, 3) := by decide +kernel
theorem dX1_verdict_26 : decode cX1_verdict 26 = .ok (.istore_n 3, 1) := by decide +kernel
theorem dX1_verdict_27 : decode cX1_verdict 27 = .ok (.aload_n 0, 1) := by decide +kernel
theorem dX1_verdict_28 : decode cX1_verdict 28 = .ok (.iconst 1, 1) := by decide +kernel
theorem dX1_verdict_29 : decode cX1_verdict 29 = .ok (.iload_n 1, 1) := by decide +kernel
theorem dX1_verdict_30 : decode cX1_verdict 30 = .ok (.iload_n 2, 1) := by decide +kernel
theorem dX1_verdict_31 : decode cX1_verdict 31 = .ok (.invokevirtual 57, 3) := by decide +kernel
theorem dX1_verdict_34 : decode cX1_verdict 34 = .ok (.istore 4, 2) := by decide +kernel
theorem dX1_verdict_36 : decode cX1_verdict 36 = .ok (.iload_n 3, 1) := by decide +kernel
theorem dX1_verdict_37 : decode cX1_verdict 37 = .ok (.ifCond .eq 7, 3) := by decide +kernel
theorem dX1_verdict_40 : decode cX1_verdict 40 = .ok (.iconst 1, 1) := by decide +kernel
theorem dX1_verdict_41 : decode cX1_verdict 41 = .ok (.goto 4, 3) := by decide +kernel
theorem dX1_verdict_44 : decode cX1_verdict 44 = .ok (.iconst 0, 1) := by decide +kernel
theorem dX1_verdict_45 : decode cX1_verdict 45 = .ok (.istore 5, 2) := by decide +kernel
theorem dX1_verdict_47 : decode cX1_verdict 47 = .ok (.iload 5, 2) := by decide +kernel
theorem dX1_verdict_49 : decode cX1_verdict 49 = .ok (.iload 4, 2) := by decide +kernel
theorem dX1_verdict_51 : decode cX1_verdict 51 = .ok (.bipush 100, 2) := by decide +kernel
theorem dX1_verdict_53 : decode cX1_verdict 53 = .ok (.if_icmp .eq 7, 3) := by decide +kernel
theorem dX1_verdict_56 : decode cX1_verdict 56 = .ok (.iconst 2, 1) := by decide +kernel
theorem dX1_verdict_57 : decode cX1_verdict 57 = .ok (.goto 4, 3) := by decide +kernel
theorem dX1_verdict_60 : decode cX1_verdict 60 = .ok (.iconst 0, 1) := by decide +kernel
theorem dX1_verdict_61 : decode cX1_verdict 61 = .ok (.iadd, 1) := by decide +kernel
theorem dX1_verdict_62 : decode cX1_verdict 62 = .ok (.istore 5, 2) := by decide +kernel
theorem dX1_verdict_64 : decode cX1_verdict 64 = .ok (.iload 5, 2) := by decide +kernel
theorem dX1_verdict_66 : decode cX1_verdict 66 = .ok (.aload_n 0, 1) := by decide +kernel
theorem dX1_verdict_67 : decode cX1_verdict 67 = .ok (.iload_n 1, 1) := by decide +kernel
theorem dX1_verdict_68 : decode cX1_verdict 68 = .ok (.iload_n 2, 1) := by decide +kernel
theorem dX1_verdict_69 : decode cX1_verdict 69 = .ok (.invokevirtual 72, 3) := by decide +kernel
theorem dX1_verdict_72 : decode cX1_verdict 72 = .ok (.ifCond .eq 7, 3) := by decide +kernel
theorem dX1_verdict_75 : decode cX1_verdict 75 = .ok (.iconst 4, 1) := by decide +kernel
theorem dX1_verdict_76 : decode cX1_verdict 76 = .ok (.goto 4, 3) := by decide +kernel
theorem dX1_verdict_79 : decode cX1_verdict 79 = .ok (.iconst 0, 1) := by decide +kernel
theorem dX1_verdict_80 : decode cX1_verdict 80 = .ok (.iadd, 1) := by decide +kernel
theorem dX1_verdict_81 : decode cX1_verdict 81 = .ok (.istore 5, 2) := by decide +kernel
theorem dX1_verdict_83 : decode cX1_verdict 83 = .ok (.iload 5, 2) := by decide +kernel
theorem dX1_verdict_85 : decode cX1_verdict 85 = .ok (.aload_n 0, 1) := by decide +kernel
theorem dX1_verdict_86 : decode cX1_verdict 86 = .ok (.iconst 3, 1) := by decide +kernel
theorem dX1_verdict_87 : decode cX1_verdict 87 = .ok (.iconst 0, 1) := by decide +kernel
theorem dX1_verdict_88 : decode cX1_verdict 88 = .ok (.iload_n 3, 1) := by decide +kernel
theorem dX1_verdict_89 : decode cX1_verdict 89 = .ok (.aload_n 0, 1) := by decide +kernel
theorem dX1_verdict_90 : decode cX1_verdict 90 = .ok (.getfield 25, 3) := by decide +kernel
theorem dX1_verdict_93 : decode cX1_verdict 93 = .ok (.invokevirtual 61, 3) := by decide +kernel
theorem dX1_verdict_96 : decode cX1_verdict 96 = .ok (.ifCond .eq 8, 3) := by decide +kernel
theorem dX1_verdict_99 : decode cX1_verdict 99 = .ok (.bipush 8, 2) := by decide +kernel
theorem dX1_verdict_101 : decode cX1_verdict 101 = .ok (.goto 4, 3) := by decide +kernel
theorem dX1_verdict_104 : decode cX1_verdict 104 = .ok (.iconst 0, 1) := by decide +kernel
theorem dX1_verdict_105 : decode cX1_verdict 105 = .ok (.iadd, 1) := by decide +kernel
theorem dX1_verdict_106 : decode cX1_verdict 106 = .ok (.istore 5, 2) := by decide +kernel
theorem dX1_verdict_108 : decode cX1_verdict 108 = .ok (.iload 5, 2) := by decide +kernel
theorem dX1_verdict_110 : decode cX1_verdict 110 = .ok (.aload_n 0, 1) := by decide +kernel
theorem dX1_verdict_111 : decode cX1_verdict 111 = .ok (.iconst 2, 1) := by decide +kernel
theorem dX1_verdict_112 : decode cX1_verdict 112 = .ok (.iconst 0, 1) := by decide +kernel
theorem dX1_verdict_113 : decode cX1_verdict 113 = .ok (.iload_n 3, 1) := by decide +kernel
theorem dX1_verdict_114 : decode cX1_verdict 114 = .ok (.aload_n 0, 1) := by decide +kernel
theorem dX1_verdict_115 : decode cX1_verdict 115 = .ok (.getfield 25, 3) := by decide +kernel
theorem dX1_verdict_118 : decode cX1_verdict 118 = .ok (.invokevirtual 61, 3) := by decide +kernel
theorem dX1_verdict_121 : decode cX1_verdict 121 = .ok (.ifCond .eq 8, 3) := by decide +kernel
theorem dX1_verdict_124 : decode cX1_verdict 124 = .ok (.bipush 16, 2) := by decide +kernel
theorem dX1_verdict_126 : decode cX1_verdict 126 = .ok (.goto 4, 3) := by decide +kernel
theorem dX1_verdict_129 : decode cX1_verdict 129 = .ok (.iconst 0, 1) := by decide +kernel
theorem dX1_verdict_130 : decode cX1_verdict 130 = .ok (.iadd, 1) := by decide +kernel
theorem dX1_verdict_131 : decode cX1_verdict 131 = .ok (.istore 5, 2) := by decide +kernel
theorem dX1_verdict_133 : decode cX1_verdict 133 = .ok (.iload 5, 2) := by decide +kernel
theorem dX1_verdict_135 : decode cX1_verdict 135 = .ok (.aload_n 0, 1) := by decide +kernel
theorem dX1_verdict_136 : decode cX1_verdict 136 = .ok (.iconst 4, 1) := by decide +kernel
theorem dX1_verdict_137 : decode cX1_verdict 137 = .ok (.iconst 0, 1) := by decide +kernel
theorem dX1_verdict_138 : decode cX1_verdict 138 = .ok (.iload_n 3, 1) := by decide +kernel
theorem dX1_verdict_139 : decode cX1_verdict 139 = .ok (.aload_n 0, 1) := by decide +kernel
theorem dX1_verdict_140 : decode cX1_verdict 140 = .ok (.getfield 25, 3) := by decide +kernel
theorem dX1_verdict_143 : decode cX1_verdict 143 = .ok (.invokevirtual 61, 3) := by decide +kernel
theorem dX1_verdict_146 : decode cX1_verdict 146 = .ok (.ifCond .eq 8, 3) := by decide +kernel
theorem dX1_verdict_149 : decode cX1_verdict 149 = .ok (.bipush 32, 2) := by decide +kernel
theorem dX1_verdict_151 : decode cX1_verdict 151 = .ok (.goto 4, 3) := by decide +kernel
theorem dX1_verdict_154 : decode cX1_verdict 154 = .ok (.iconst 0, 1) := by decide +kernel
theorem dX1_verdict_155 : decode cX1_verdict 155 = .ok (.iadd, 1) := by decide +kernel
theorem dX1_verdict_156 : decode cX1_verdict 156 = .ok (.istore 5, 2) := by decide +kernel
theorem dX1_verdict_158 : decode cX1_verdict 158 = .ok (.iload 5, 2) := by decide +kernel
theorem dX1_verdict_160 : decode cX1_verdict 160 = .ok (.aload_n 0, 1) := by decide +kernel
theorem dX1_verdict_161 : decode cX1_verdict 161 = .ok (.iconst 1, 1) := by decide +kernel
theorem dX1_verdict_162 : decode cX1_verdict 162 = .ok (.iconst 1, 1) := by decide +kernel
theorem dX1_verdict_163 : decode cX1_verdict 163 = .ok (.iload 4, 2) := by decide +kernel
theorem dX1_verdict_165 : decode cX1_verdict 165 = .ok (.aload_n 0, 1) := by decide +kernel
theorem dX1_verdict_166 : decode cX1_verdict 166 = .ok (.getfield 29, 3) := by decide +kernel
theorem dX1_verdict_169 : decode cX1_verdict 169 = .ok (.invokevirtual 61, 3) := by decide +kernel
theorem dX1_verdict_172 : decode cX1_verdict 172 = .ok (.ifCond .eq 8, 3) := by decide +kernel
theorem dX1_verdict_175 : decode cX1_verdict 175 = .ok (.bipush 64, 2) := by decide +kernel
theorem dX1_verdict_177 : decode cX1_verdict 177 = .ok (.goto 4, 3) := by decide +kernel
theorem dX1_verdict_180 : decode cX1_verdict 180 = .ok (.iconst 0, 1) := by decide +kernel
theorem dX1_verdict_181 : decode cX1_verdict 181 = .ok (.iadd, 1) := by decide +kernel
theorem dX1_verdict_182 : decode cX1_verdict 182 = .ok (.istore 5, 2) := by decide +kernel
theorem dX1_verdict_184 : decode cX1_verdict 184 = .ok (.iload 5, 2) := by decide +kernel
theorem dX1_verdict_186 : decode cX1_verdict 186 = .ok (.aload_n 0, 1) := by decide +kernel
theorem dX1_verdict_187 : decode cX1_verdict 187 = .ok (.iload_n 1, 1) := by decide +kernel
theorem dX1_verdict_188 : decode cX1_verdict 188 = .ok (.iload_n 2, 1) := by decide +kernel
theorem dX1_verdict_189 : decode cX1_verdict 189 = .ok (.invokevirtual 91, 3) := by decide +kernel
theorem dX1_verdict_192 : decode cX1_verdict 192 = .ok (.ifCond .eq 9, 3) := by decide +kernel
theorem dX1_verdict_195 : decode cX1_verdict 195 = .ok (.sipush 128, 3) := by decide +kernel
theorem dX1_verdict_198 : decode cX1_verdict 198 = .ok (.goto 4, 3) := by decide +kernel
theorem dX1_verdict_201 : decode cX1_verdict 201 = .ok (.iconst 0, 1) := by decide +kernel
theorem dX1_verdict_202 : decode cX1_verdict 202 = .ok (.iadd, 1) := by decide +kernel
theorem dX1_verdict_203 : decode cX1_verdict 203 = .ok (.ireturn, 1) := by decide +kernel
set_option maxRecDepth 20000 in
theorem ggX1_told_X1_isIn : GoodIn wsX1_told wsX1_isIn := goodIn_r _ [8] (by decide +kernel) (by decide +kernel)
set_option maxRecDepth 20000 in
theorem gX1_told_X1_isIn : GoodIn wsX1_told (va_wsS RX1 35 yX1_isIn wsX1_isIn) := goodIn_app (goodIn_of _ (by decide +kernel)) ggX1_told_X1_isIn
set_option maxRecDepth 20000 in
theorem ggX1_told_X1_code : GoodIn wsX1_told wsX1_code := goodIn_r _ [12, 4, 13, 14, 15, 16, 7, 17, 27, 28, 29, 30, 31, 32, 33, 34] (by decide +kernel) (by decide +kernel)
set_option maxRecDepth 20000 in
theorem gX1_told_X1_code : GoodIn wsX1_told (wsV RX1 57 RX1 yX1_code wsX1_code) := goodIn_app (goodIn_of _ (by decide +kernel)) ggX1_told_X1_code
set_option maxRecDepth 20000 in
theorem ggX1_told_X1_isLegal : GoodIn wsX1_told wsX1_isLegal := goodIn_r _ [21, 3, 9, 10, 11, 7, 12, 4, 13, 14, 15, 16, 17, 22, 23, 24, 25, 26, 27, 28, 29, 30, 31, 32, 33, 34] (by decide +kernel) (by decide +kernel)
set_option maxRecDepth 20000 in
theorem gX1_told_X1_isLegal : GoodIn wsX1_told (wsV RX1 72 RX1 yX1_isLegal wsX1_isLegal) := goodIn_app (goodIn_of _ (by decide +kernel)) ggX1_told_X1_isLegal
theorem dX1_told_0 : decode cX1_told 0 = .ok (.iload_n 1, 1) := by decide +kernel
theorem dX1_told_1 : decode cX1_told 1 = .ok (.ifCond .ne 8, 3) := by decide +kernel
theorem dX1_told_4 : decode cX1_told 4 = .ok (.aload_n 0, 1) := by decide +kernel
theorem dX1_told_5 : decode cX1_told 5 = .ok (.getfield 32, 3) := by decide +kernel
theorem dX1_told_8 : decode cX1_told 8 = .ok (.ireturn, 1) := by decide +kernel
theorem dX1_told_9 : decode cX1_told 9 = .ok (.iload_n 1, 1) := by decide +kernel
theorem dX1_told_10 : decode cX1_told 10 = .ok (.iconst 4, 1) := by decide +kernel
theorem dX1_told_11 : decode cX1_told 11 = .ok (.if_icmp .ne 8, 3) := by decide +kernel
theorem dX1_told_14 : decode cX1_told 14 = .ok (.aload_n 0, 1) := by decide +kernel
theorem dX1_told_15 : decode cX1_told 15 = .ok (.getfield 25, 3) := by decide +kernel
theorem dX1_told_18 : decode cX1_told 18 = .ok (.ireturn, 1) := by decide +kernel
theorem dX1_told_19 : decode cX1_told 19 = .ok (.iload_n 1, 1) := by decide +kernel
theorem dX1_told_20 : decode cX1_told 20 = .ok (.iconst 5, 1) := by decide +kernel
theorem dX1_told_21 : decode cX1_told 21 = .ok (.if_icmp .ne 8, 3) := by decide +kernel
theorem dX1_told_24 : decode cX1_told 24 = .ok (.aload_n 0, 1) := by decide +kernel
theorem dX1_told_25 : decode cX1_told 25 = .ok (.getfield 29, 3) := by decide +kernel
theorem dX1_told_28 : decode cX1_told 28 = .ok (.ireturn, 1) := by decide +kernel
theorem dX1_told_29 : decode cX1_told 29 = .ok (.iload_n 1, 1) := by decide +kernel
theorem dX1_told_30 : decode cX1_told 30 = .ok (.iconst 1, 1) := by decide +kernel
theorem dX1_told_31 : decode cX1_told 31 = .ok (.iconst 3, 1) := by decide +kernel
theorem dX1_told_32 : decode cX1_told 32 = .ok (.invokestatic 35, 3) := by decide +kernel
theorem dX1_told_35 : decode cX1_told 35 = .ok (.ifCond .ne 7, 3) := by decide +kernel
theorem dX1_told_38 : decode cX1_told 38 = .ok (.sipush (-1000), 3) := by decide +kernel
theorem dX1_told_41 : decode cX1_told 41 = .ok (.ireturn, 1) := by decide +kernel
theorem dX1_told_42 : decode cX1_told 42 = .ok (.iconst 0, 1) := by decide +kernel
theorem dX1_told_43 : decode cX1_told 43 = .ok (.istore_n 2, 1) := by decide +kernel
theorem dX1_told_44 : decode cX1_told 44 = .ok (.iconst 0, 1) := by decide +kernel
theorem dX1_told_45 : decode cX1_told 45 = .ok (.istore_n 3, 1) := by decide +kernel
theorem dX1_told_46 : decode cX1_told 46 = .ok (.iload_n 3, 1) := by decide +kernel
theorem dX1_told_47 : decode cX1_told 47 = .ok (.aload_n 0, 1) := by decide +kernel
theorem dX1_told_48 : decode cX1_told 48 = .ok (.getfield 32, 3) := by decide +kernel
theorem dX1_told_51 : decode cX1_told 51 = .ok (.if_icmp .ge 83, 3) := by decide +kernel
theorem dX1_told_54 : decode cX1_told 54 = .ok (.iconst 0, 1) := by decide +kernel
theorem dX1_told_55 : decode cX1_told 55 = .ok (.istore 4, 2) := by decide +kernel
theorem dX1_told_57 : decode cX1_told 57 = .ok (.iload 4, 2) := by decide +kernel
theorem dX1_told_59 : decode cX1_told 59 = .ok (.aload_n 0, 1) := by decide +kernel
theorem dX1_told_60 : decode cX1_told 60 = .ok (.getfield 13, 3) := by decide +kernel
theorem dX1_told_63 : decode cX1_told 63 = .ok (.iload_n 3, 1) := by decide +kernel
theorem dX1_told_64 : decode cX1_told 64 = .ok (.iaload, 1) := by decide +kernel
theorem dX1_told_65 : decode cX1_told 65 = .ok (.if_icmp .ge 63, 3) := by decide +kernel
theorem dX1_told_68 : decode cX1_told 68 = .ok (.iload_n 1, 1) := by decide +kernel
theorem dX1_told_69 : decode cX1_told 69 = .ok (.iconst 1, 1) := by decide +kernel
theorem dX1_told_70 : decode cX1_told 70 = .ok (.if_icmp .eq 32, 3) := by decide +kernel
theorem dX1_told_73 : decode cX1_told 73 = .ok (.iload_n 1, 1) := by decide +kernel
theorem dX1_told_74 : decode cX1_told 74 = .ok (.iconst 2, 1) := by decide +kernel
theorem dX1_told_75 : decode cX1_told 75 = .ok (.if_icmp .ne 17, 3) := by decide +kernel
theorem dX1_told_78 : decode cX1_told 78 = .ok (.aload_n 0, 1) := by decide +kernel
theorem dX1_told_79 : decode cX1_told 79 = .ok (.iconst 0, 1) := by decide +kernel
theorem dX1_told_80 : decode cX1_told 80 = .ok (.iload_n 3, 1) := by decide +kernel
theorem dX1_told_81 : decode cX1_told 81 = .ok (.iload 4, 2) := by decide +kernel
theorem dX1_told_83 : decode cX1_told 83 = .ok (.invokevirtual 57, 3) := by decide +kernel
theorem dX1_told_86 : decode cX1_told 86 = .ok (.ifCond .ne 20, 3) := by decide +kernel
theorem dX1_told_89 : decode cX1_told 89 = .ok (.goto 13, 3) := by decide +kernel
theorem dX1_told_92 : decode cX1_told 92 = .ok (.aload_n 0, 1) := by decide +kernel
theorem dX1_told_93 : decode cX1_told 93 = .ok (.iload_n 3, 1) := by decide +kernel
theorem dX1_told_94 : decode cX1_told 94 = .ok (.iload 4, 2) := by decide +kernel
theorem dX1_told_96 : decode cX1_told 96 = .ok (.invokevirtual 72, 3) := by decide +kernel
theorem dX1_told_99 : decode cX1_told 99 = .ok (.ifCond .eq 7, 3) := by decide +kernel
theorem dX1_told_102 : decode cX1_told 102 = .ok (.iconst 1, 1) := by decide +kernel
theorem dX1_told_103 : decode cX1_told 103 = .ok (.goto 4, 3) := by decide +kernel
theorem dX1_told_106 : decode cX1_told 106 = .ok (.iconst 0, 1) := by decide +kernel
theorem dX1_told_107 : decode cX1_told 107 = .ok (.istore 5, 2) := by decide +kernel
theorem dX1_told_109 : decode cX1_told 109 = .ok (.iload_n 2, 1) := by decide +kernel
theorem dX1_told_110 : decode cX1_told 110 = .ok (.iload 5, 2) := by decide +kernel
theorem dX1_told_112 : decode cX1_told 112 = .ok (.ifCond .eq 7, 3) := by decide +kernel
theorem dX1_told_115 : decode cX1_told 115 = .ok (.iconst 1, 1) := by decide +kernel
theorem dX1_told_116 : decode cX1_told 116 = .ok (.goto 4, 3) := by decide +kernel
theorem dX1_told_119 : decode cX1_told 119 = .ok (.iconst 0, 1) := by decide +kernel
theorem dX1_told_120 : decode cX1_told 120 = .ok (.iadd, 1) := by decide +kernel
theorem dX1_told_121 : decode cX1_told 121 = .ok (.istore_n 2, 1) := by decide +kernel
theorem dX1_told_122 : decode cX1_told 122 = .ok (.iinc 4 1, 3) := by decide +kernel
theorem dX1_told_125 : decode cX1_told 125 = .ok (.goto (-68), 3) := by decide +kernel
theorem dX1_told_128 : decode cX1_told 128 = .ok (.iinc 3 1, 3) := by decide +kernel
theorem dX1_told_131 : decode cX1_told 131 = .ok (.goto (-85), 3) := by decide +kernel
theorem dX1_told_134 : decode cX1_told 134 = .ok (.iload_n 2, 1) := by decide +kernel
theorem dX1_told_135 : decode cX1_told 135 = .ok (.ireturn, 1) := by decide +kernel
theorem dJ9_max_7cf53_0 : decode cJ9_max_7cf53 0 = .ok (.iload_n 0, 1) := by decide +kernel
theorem dJ9_max_7cf53_1 : decode cJ9_max_7cf53 1 = .ok (.iload_n 1, 1) := by decide +kernel
theorem dJ9_max_7cf53_2 : decode cJ9_max_7cf53 2 = .ok (.if_icmp .lt 7, 3) := by decide +kernel
theorem dJ9_max_7cf53_5 : decode cJ9_max_7cf53 5 = .ok (.iload_n 0, 1) := by decide +kernel
theorem dJ9_max_7cf53_6 : decode cJ9_max_7cf53 6 = .ok (.goto 4, 3) := by decide +kernel
theorem dJ9_max_7cf53_9 : decode cJ9_max_7cf53 9 = .ok (.iload_n 1, 1) := by decide +kernel
theorem dJ9_max_7cf53_10 : decode cJ9_max_7cf53 10 = .ok (.ireturn, 1) := by decide +kernel

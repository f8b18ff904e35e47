theorem dX0_init_0 : decode cX0_init 0 = .ok (.aload_n 0, 1) := by decide +kernel
theorem dX0_init_1 : decode cX0_init 1 = .ok (.invokespecial 1, 3) := by decide +kernel
theorem dX0_init_4 : decode cX0_init 4 = .ok (.aload_n 0, 1) := by decide +kernel
theorem dX0_init_5 : decode cX0_init 5 = .ok (.iconst 0, 1) := by decide +kernel
theorem dX0_init_6 : decode cX0_init 6 = .ok (.putfield 7, 3) := by decide +kernel
theorem dX0_init_9 : decode cX0_init 9 = .ok (.aload_n 0, 1) := by decide +kernel
theorem dX0_init_10 : decode cX0_init 10 = .ok (.iconst 0, 1) := by decide +kernel
theorem dX0_init_11 : decode cX0_init 11 = .ok (.putfield 13, 3) := by decide +kernel
theorem dX0_init_14 : decode cX0_init 14 = .ok (.aload_n 0, 1) := by decide +kernel
theorem dX0_init_15 : decode cX0_init 15 = .ok (.bipush 100, 2) := by decide +kernel
theorem dX0_init_17 : decode cX0_init 17 = .ok (.putfield 16, 3) := by decide +kernel
theorem dX0_init_20 : decode cX0_init 20 = .ok (.aload_n 0, 1) := by decide +kernel
theorem dX0_init_21 : decode cX0_init 21 = .ok (.bipush 8, 2) := by decide +kernel
theorem dX0_init_23 : decode cX0_init 23 = .ok (.newarray .int, 2) := by decide +kernel
theorem dX0_init_25 : decode cX0_init 25 = .ok (.putfield 19, 3) := by decide +kernel
theorem dX0_init_28 : decode cX0_init 28 = .ok (.aload_n 0, 1) := by decide +kernel
theorem dX0_init_29 : decode cX0_init 29 = .ok (.bipush 8, 2) := by decide +kernel
theorem dX0_init_31 : decode cX0_init 31 = .ok (.newarray .int, 2) := by decide +kernel
theorem dX0_init_33 : decode cX0_init 33 = .ok (.putfield 23, 3) := by decide +kernel
theorem dX0_init_36 : decode cX0_init 36 = .ok (.aload_n 0, 1) := by decide +kernel
theorem dX0_init_37 : decode cX0_init 37 = .ok (.bipush 48, 2) := by decide +kernel
theorem dX0_init_39 : decode cX0_init 39 = .ok (.newarray .int, 2) := by decide +kernel
theorem dX0_init_41 : decode cX0_init 41 = .ok (.putfield 26, 3) := by decide +kernel
theorem dX0_init_44 : decode cX0_init 44 = .ok (.aload_n 0, 1) := by decide +kernel
theorem dX0_init_45 : decode cX0_init 45 = .ok (.bipush 48, 2) := by decide +kernel
theorem dX0_init_47 : decode cX0_init 47 = .ok (.newarray .int, 2) := by decide +kernel
theorem dX0_init_49 : decode cX0_init 49 = .ok (.putfield 29, 3) := by decide +kernel
theorem dX0_init_52 : decode cX0_init 52 = .ok (.aload_n 0, 1) := by decide +kernel
theorem dX0_init_53 : decode cX0_init 53 = .ok (.bipush 48, 2) := by decide +kernel
theorem dX0_init_55 : decode cX0_init 55 = .ok (.newarray .int, 2) := by decide +kernel
theorem dX0_init_57 : decode cX0_init 57 = .ok (.putfield 32, 3) := by decide +kernel
theorem dX0_init_60 : decode cX0_init 60 = .ok (.iconst 0, 1) := by decide +kernel
theorem dX0_init_61 : decode cX0_init 61 = .ok (.istore_n 1, 1) := by decide +kernel
theorem dX0_init_62 : decode cX0_init 62 = .ok (.iload_n 1, 1) := by decide +kernel
theorem dX0_init_63 : decode cX0_init 63 = .ok (.bipush 48, 2) := by decide +kernel
theorem dX0_init_65 : decode cX0_init 65 = .ok (.if_icmp .ge 24, 3) := by decide +kernel
theorem dX0_init_68 : decode cX0_init 68 = .ok (.aload_n 0, 1) := by decide +kernel
theorem dX0_init_69 : decode cX0_init 69 = .ok (.getfield 26, 3) := by decide +kernel
theorem dX0_init_72 : decode cX0_init 72 = .ok (.iload_n 1, 1) := by decide +kernel
theorem dX0_init_73 : decode cX0_init 73 = .ok (.iconst 0, 1) := by decide +kernel
theorem dX0_init_74 : decode cX0_init 74 = .ok (.iastore, 1) := by decide +kernel
theorem dX0_init_75 : decode cX0_init 75 = .ok (.aload_n 0, 1) := by decide +kernel
theorem dX0_init_76 : decode cX0_init 76 = .ok (.getfield 29, 3) := by decide +kernel
theorem dX0_init_79 : decode cX0_init 79 = .ok (.iload_n 1, 1) := by decide +kernel
theorem dX0_init_80 : decode cX0_init 80 = .ok (.bipush 100, 2) := by decide +kernel
theorem dX0_init_82 : decode cX0_init 82 = .ok (.iastore, 1) := by decide +kernel
theorem dX0_init_83 : decode cX0_init 83 = .ok (.iinc 1 1, 3) := by decide +kernel
theorem dX0_init_86 : decode cX0_init 86 = .ok (.goto (-24), 3) := by decide +kernel
theorem dX0_init_89 : decode cX0_init 89 = .ok (.return_, 1) := by decide +kernel
set_option maxRecDepth 20000 in
theorem ggX0_enter_X0_isBibTaken : GoodIn wsX0_enter wsX0_isBibTaken := goodIn_r _ [7, 1, 2, 8, 9, 10, 11, 12, 13, 14, 15] (by decide +kernel) (by decide +kernel)
set_option maxRecDepth 20000 in
theorem gX0_enter_X0_isBibTaken : GoodIn wsX0_enter (wsV RX0 35 RX0 yX0_isBibTaken wsX0_isBibTaken) := goodIn_app (goodIn_of _ (by decide +kernel)) ggX0_enter_X0_isBibTaken
theorem dX0_enter_0 : decode cX0_enter 0 = .ok (.aload_n 0, 1) := by decide +kernel
theorem dX0_enter_1 : decode cX0_enter 1 = .ok (.getfield 7, 3) := by decide +kernel
theorem dX0_enter_4 : decode cX0_enter 4 = .ok (.bipush 8, 2) := by decide +kernel
theorem dX0_enter_6 : decode cX0_enter 6 = .ok (.if_icmp .ge 23, 3) := by decide +kernel
theorem dX0_enter_9 : decode cX0_enter 9 = .ok (.iload_n 1, 1) := by decide +kernel
theorem dX0_enter_10 : decode cX0_enter 10 = .ok (.iconst 1, 1) := by decide +kernel
theorem dX0_enter_11 : decode cX0_enter 11 = .ok (.if_icmp .lt 18, 3) := by decide +kernel
theorem dX0_enter_14 : decode cX0_enter 14 = .ok (.iload_n 1, 1) := by decide +kernel
theorem dX0_enter_15 : decode cX0_enter 15 = .ok (.sipush 999, 3) := by decide +kernel
theorem dX0_enter_18 : decode cX0_enter 18 = .ok (.if_icmp .gt 11, 3) := by decide +kernel
theorem dX0_enter_21 : decode cX0_enter 21 = .ok (.aload_n 0, 1) := by decide +kernel
theorem dX0_enter_22 : decode cX0_enter 22 = .ok (.iload_n 1, 1) := by decide +kernel
theorem dX0_enter_23 : decode cX0_enter 23 = .ok (.invokevirtual 35, 3) := by decide +kernel
theorem dX0_enter_26 : decode cX0_enter 26 = .ok (.ifCond .eq 7, 3) := by decide +kernel
theorem dX0_enter_29 : decode cX0_enter 29 = .ok (.sipush (-1000), 3) := by decide +kernel
theorem dX0_enter_32 : decode cX0_enter 32 = .ok (.ireturn, 1) := by decide +kernel
theorem dX0_enter_33 : decode cX0_enter 33 = .ok (.aload_n 0, 1) := by decide +kernel
theorem dX0_enter_34 : decode cX0_enter 34 = .ok (.getfield 7, 3) := by decide +kernel
theorem dX0_enter_37 : decode cX0_enter 37 = .ok (.istore_n 2, 1) := by decide +kernel
theorem dX0_enter_38 : decode cX0_enter 38 = .ok (.aload_n 0, 1) := by decide +kernel
theorem dX0_enter_39 : decode cX0_enter 39 = .ok (.getfield 19, 3) := by decide +kernel
theorem dX0_enter_42 : decode cX0_enter 42 = .ok (.iload_n 2, 1) := by decide +kernel
theorem dX0_enter_43 : decode cX0_enter 43 = .ok (.iload_n 1, 1) := by decide +kernel
theorem dX0_enter_44 : decode cX0_enter 44 = .ok (.iastore, 1) := by decide +kernel
theorem dX0_enter_45 : decode cX0_enter 45 = .ok (.aload_n 0, 1) := by decide +kernel
theorem dX0_enter_46 : decode cX0_enter 46 = .ok (.iload_n 2, 1) := by decide +kernel
theorem dX0_enter_47 : decode cX0_enter 47 = .ok (.iconst 1, 1) := by decide +kernel
theorem dX0_enter_48 : decode cX0_enter 48 = .ok (.iadd, 1) := by decide +kernel
theorem dX0_enter_49 : decode cX0_enter 49 = .ok (.putfield 7, 3) := by decide +kernel
theorem dX0_enter_52 : decode cX0_enter 52 = .ok (.iload_n 2, 1) := by decide +kernel
theorem dX0_enter_53 : decode cX0_enter 53 = .ok (.ireturn, 1) := by decide +kernel
set_option maxRecDepth 20000 in
theorem ggX0_jump_X0_isJumper : GoodIn wsX0_jump wsX0_isJumper := goodIn_r _ [8, 9, 19, 20, 21, 22, 23, 24, 25, 26] (by decide +kernel) (by decide +kernel)
set_option maxRecDepth 20000 in
theorem gX0_jump_X0_isJumper : GoodIn wsX0_jump (wsV RX0 39 RX0 yX0_isJumper wsX0_isJumper) := goodIn_app (goodIn_of _ (by decide +kernel)) ggX0_jump_X0_isJumper
set_option maxRecDepth 20000 in
theorem ggX0_jump_X0_isMark : GoodIn wsX0_jump wsX0_isMark := goodIn_r _ [12] (by decide +kernel) (by decide +kernel)
set_option maxRecDepth 20000 in
theorem gX0_jump_X0_isMark : GoodIn wsX0_jump (va_wsS RX0 42 yX0_isMark wsX0_isMark) := goodIn_app (goodIn_of _ (by decide +kernel)) ggX0_jump_X0_isMark
set_option maxRecDepth 20000 in
theorem ggX0_jump_X0_isWind : GoodIn wsX0_jump wsX0_isWind := goodIn_r _ [15] (by decide +kernel) (by decide +kernel)
set_option maxRecDepth 20000 in
theorem gX0_jump_X0_isWind : GoodIn wsX0_jump (va_wsS RX0 45 yX0_isWind wsX0_isWind) := goodIn_app (goodIn_of _ (by decide +kernel)) ggX0_jump_X0_isWind
set_option maxRecDepth 20000 in
theorem ggX0_jump_X0_at : GoodIn wsX0_jump wsX0_at := goodIn_r _ [18] (by decide +kernel) (by decide +kernel)
set_option maxRecDepth 20000 in
theorem gX0_jump_X0_at : GoodIn wsX0_jump (va_wsS RX0 48 yX0_at wsX0_at) := goodIn_app (goodIn_of _ (by decide +kernel)) ggX0_jump_X0_at
theorem dX0_jump_0 : decode cX0_jump 0 = .ok (.aload_n 0, 1) := by decide +kernel
theorem dX0_jump_1 : decode cX0_jump 1 = .ok (.iload_n 1, 1) := by decide +kernel
theorem dX0_jump_2 : decode cX0_jump 2 = .ok (.invokevirtual 39, 3) := by decide +kernel
theorem dX0_jump_5 : decode cX0_jump 5 = .ok (.ifCond .eq 28, 3) := by decide +kernel
theorem dX0_jump_8 : decode cX0_jump 8 = .ok (.iload_n 2, 1) := by decide +kernel
theorem dX0_jump_9 : decode cX0_jump 9 = .ok (.invokestatic 42, 3) := by decide +kernel
theorem dX0_jump_12 : decode cX0_jump 12 = .ok (.ifCond .eq 21, 3) := by decide +kernel
theorem dX0_jump_15 : decode cX0_jump 15 = .ok (.iload_n 3, 1) := by decide +kernel
theorem dX0_jump_16 : decode cX0_jump 16 = .ok (.invokestatic 45, 3) := by decide +kernel
theorem dX0_jump_19 : decode cX0_jump 19 = .ok (.ifCond .eq 14, 3) := by decide +kernel
theorem dX0_jump_22 : decode cX0_jump 22 = .ok (.aload_n 0, 1) := by decide +kernel
theorem dX0_jump_23 : decode cX0_jump 23 = .ok (.getfield 23, 3) := by decide +kernel
theorem dX0_jump_26 : decode cX0_jump 26 = .ok (.iload_n 1, 1) := by decide +kernel
theorem dX0_jump_27 : decode cX0_jump 27 = .ok (.iaload, 1) := by decide +kernel
theorem dX0_jump_28 : decode cX0_jump 28 = .ok (.bipush 6, 2) := by decide +kernel
theorem dX0_jump_30 : decode cX0_jump 30 = .ok (.if_icmp .lt 7, 3) := by decide +kernel
theorem dX0_jump_33 : decode cX0_jump 33 = .ok (.sipush (-1000), 3) := by decide +kernel
theorem dX0_jump_36 : decode cX0_jump 36 = .ok (.ireturn, 1) := by decide +kernel
theorem dX0_jump_37 : decode cX0_jump 37 = .ok (.aload_n 0, 1) := by decide +kernel
theorem dX0_jump_38 : decode cX0_jump 38 = .ok (.getfield 23, 3) := by decide +kernel
theorem dX0_jump_41 : decode cX0_jump 41 = .ok (.iload_n 1, 1) := by decide +kernel
theorem dX0_jump_42 : decode cX0_jump 42 = .ok (.iaload, 1) := by decide +kernel
theorem dX0_jump_43 : decode cX0_jump 43 = .ok (.istore 4, 2) := by decide +kernel
theorem dX0_jump_45 : decode cX0_jump 45 = .ok (.aload_n 0, 1) := by decide +kernel
theorem dX0_jump_46 : decode cX0_jump 46 = .ok (.getfield 26, 3) := by decide +kernel
theorem dX0_jump_49 : decode cX0_jump 49 = .ok (.iload_n 1, 1) := by decide +kernel
theorem dX0_jump_50 : decode cX0_jump 50 = .ok (.iload 4, 2) := by decide +kernel
theorem dX0_jump_52 : decode cX0_jump 52 = .ok (.invokestatic 48, 3) := by decide +kernel
theorem dX0_jump_55 : decode cX0_jump 55 = .ok (.iload_n 2, 1) := by decide +kernel
theorem dX0_jump_56 : decode cX0_jump 56 = .ok (.iastore, 1) := by decide +kernel
theorem dX0_jump_57 : decode cX0_jump 57 = .ok (.aload_n 0, 1) := by decide +kernel
theorem dX0_jump_58 : decode cX0_jump 58 = .ok (.getfield 29, 3) := by decide +kernel
theorem dX0_jump_61 : decode cX0_jump 61 = .ok (.iload_n 1, 1) := by decide +kernel
theorem dX0_jump_62 : decode cX0_jump 62 = .ok (.iload 4, 2) := by decide +kernel
theorem dX0_jump_64 : decode cX0_jump 64 = .ok (.invokestatic 48, 3) := by decide +kernel
theorem dX0_jump_67 : decode cX0_jump 67 = .ok (.iload_n 3, 1) := by decide +kernel
theorem dX0_jump_68 : decode cX0_jump 68 = .ok (.iastore, 1) := by decide +kernel
theorem dX0_jump_69 : decode cX0_jump 69 = .ok (.aload_n 0, 1) := by decide +kernel
theorem dX0_jump_70 : decode cX0_jump 70 = .ok (.getfield 23, 3) := by decide +kernel
theorem dX0_jump_73 : decode cX0_jump 73 = .ok (.iload_n 1, 1) := by decide +kernel
theorem dX0_jump_74 : decode cX0_jump 74 = .ok (.iload 4, 2) := by decide +kernel
theorem dX0_jump_76 : decode cX0_jump 76 = .ok (.iconst 1, 1) := by decide +kernel
theorem dX0_jump_77 : decode cX0_jump 77 = .ok (.iadd, 1) := by decide +kernel
theorem dX0_jump_78 : decode cX0_jump 78 = .ok (.iastore, 1) := by decide +kernel
theorem dX0_jump_79 : decode cX0_jump 79 = .ok (.iload 4, 2) := by decide +kernel
theorem dX0_jump_81 : decode cX0_jump 81 = .ok (.ireturn, 1) := by decide +kernel
set_option maxRecDepth 20000 in
theorem ggX0_undo_X0_isJumper : GoodIn wsX0_undo wsX0_isJumper := goodIn_r _ [8, 9, 13, 14, 15, 16, 17, 18, 19, 20] (by decide +kernel) (by decide +kernel)
set_option maxRecDepth 20000 in
theorem gX0_undo_X0_isJumper : GoodIn wsX0_undo (wsV RX0 39 RX0 yX0_isJumper wsX0_isJumper) := goodIn_app (goodIn_of _ (by decide +kernel)) ggX0_undo_X0_isJumper
set_option maxRecDepth 20000 in
theorem ggX0_undo_X0_at : GoodIn wsX0_undo wsX0_at := goodIn_r _ [12] (by decide +kernel) (by decide +kernel)
set_option maxRecDepth 20000 in
theorem gX0_undo_X0_at : GoodIn wsX0_undo (va_wsS RX0 48 yX0_at wsX0_at) := goodIn_app (goodIn_of _ (by decide +kernel)) ggX0_undo_X0_at
theorem dX0_undo_0 : decode cX0_undo 0 = .ok (.aload_n 0, 1) := by decide +kernel
theorem dX0_undo_1 : decode cX0_undo 1 = .ok (.iload_n 1, 1) := by decide +kernel
theorem dX0_undo_2 : decode cX0_undo 2 = .ok (.invokevirtual 39, 3) := by decide +kernel
theorem dX0_undo_5 : decode cX0_undo 5 = .ok (.ifCond .eq 12, 3) := by decide +kernel
theorem dX0_undo_8 : decode cX0_undo 8 = .ok (.aload_n 0, 1) := by decide +kernel
theorem dX0_undo_9 : decode cX0_undo 9 = .ok (.getfield 23, 3) := by decide +kernel
theorem dX0_undo_12 : decode cX0_undo 12 = .ok (.iload_n 1, 1) := by decide +kernel
theorem dX0_undo_13 : decode cX0_undo 13 = .ok (.iaload, 1) := by decide +kernel
theorem dX0_undo_14 : decode cX0_undo 14 = .ok (.ifCond .gt 7, 3) := by decide +kernel
theorem dX0_undo_17 : decode cX0_undo 17 = .ok (.sipush (-1000), 3) := by decide +kernel
theorem dX0_undo_20 : decode cX0_undo 20 = .ok (.ireturn, 1) := by decide +kernel
theorem dX0_undo_21 : decode cX0_undo 21 = .ok (.aload_n 0, 1) := by decide +kernel
theorem dX0_undo_22 : decode cX0_undo 22 = .ok (.getfield 23, 3) := by decide +kernel
theorem dX0_undo_25 : decode cX0_undo 25 = .ok (.iload_n 1, 1) := by decide +kernel
theorem dX0_undo_26 : decode cX0_undo 26 = .ok (.iaload, 1) := by decide +kernel
theorem dX0_undo_27 : decode cX0_undo 27 = .ok (.iconst 1, 1) := by decide +kernel
theorem dX0_undo_28 : decode cX0_undo 28 = .ok (.isub, 1) := by decide +kernel
theorem dX0_undo_29 : decode cX0_undo 29 = .ok (.istore_n 2, 1) := by decide +kernel
theorem dX0_undo_30 : decode cX0_undo 30 = .ok (.aload_n 0, 1) := by decide +kernel
theorem dX0_undo_31 : decode cX0_undo 31 = .ok (.getfield 26, 3) := by decide +kernel
theorem dX0_undo_34 : decode cX0_undo 34 = .ok (.iload_n 1, 1) := by decide +kernel
theorem dX0_undo_35 : decode cX0_undo 35 = .ok (.iload_n 2, 1) := by decide +kernel
theorem dX0_undo_36 : decode cX0_undo 36 = .ok (.invokestatic 48, 3) := by decide +kernel
theorem dX0_undo_39 : decode cX0_undo 39 = .ok (.iconst 0, 1) := by decide +kernel
theorem dX0_undo_40 : decode cX0_undo 40 = .ok (.iastore, 1) := by decide +kernel
theorem dX0_undo_41 : decode cX0_undo 41 = .ok (.aload_n 0, 1) := by decide +kernel
theorem dX0_undo_42 : decode cX0_undo 42 = .ok (.getfield 29, 3) := by decide +kernel
theorem dX0_undo_45 : decode cX0_undo 45 = .ok (.iload_n 1, 1) := by decide +kernel
theorem dX0_undo_46 : decode cX0_undo 46 = .ok (.iload_n 2, 1) := by decide +kernel
theorem dX0_undo_47 : decode cX0_undo 47 = .ok (.invokestatic 48, 3) := by decide +kernel
theorem dX0_undo_50 : decode cX0_undo 50 = .ok (.bipush 100, 2) := by decide +kernel
theorem dX0_undo_52 : decode cX0_undo 52 = .ok (.iastore, 1) := by decide +kernel
theorem dX0_undo_53 : decode cX0_undo 53 = .ok (.aload_n 0, 1) := by decide +kernel
theorem dX0_undo_54 : decode cX0_undo 54 = .ok (.getfield 23, 3) := by decide +kernel
theorem dX0_undo_57 : decode cX0_undo 57 = .ok (.iload_n 1, 1) := by decide +kernel
theorem dX0_undo_58 : decode cX0_undo 58 = .ok (.iload_n 2, 1) := by decide +kernel
theorem dX0_undo_59 : decode cX0_undo 59 = .ok (.iastore, 1) := by decide +kernel
theorem dX0_undo_60 : decode cX0_undo 60 = .ok (.iload_n 2, 1) := by decide +kernel
theorem dX0_undo_61 : decode cX0_undo 61 = .ok (.ireturn, 1) := by decide +kernel
set_option maxRecDepth 20000 in
theorem ggX0_record_X0_isMark : GoodIn wsX0_record wsX0_isMark := goodIn_r _ [5] (by decide +kernel) (by decide +kernel)
set_option maxRecDepth 20000 in
theorem gX0_record_X0_isMark : GoodIn wsX0_record (va_wsS RX0 42 yX0_isMark wsX0_isMark) := goodIn_app (goodIn_of _ (by decide +kernel)) ggX0_record_X0_isMark
theorem dX0_record_0 : decode cX0_record 0 = .ok (.iload_n 1, 1) := by decide +kernel
theorem dX0_record_1 : decode cX0_record 1 = .ok (.invokestatic 42, 3) := by decide +kernel
theorem dX0_record_4 : decode cX0_record 4 = .ok (.ifCond .ne 7, 3) := by decide +kernel
theorem dX0_record_7 : decode cX0_record 7 = .ok (.sipush (-1000), 3) := by decide +kernel
theorem dX0_record_10 : decode cX0_record 10 = .ok (.ireturn, 1) := by decide +kernel
theorem dX0_record_11 : decode cX0_record 11 = .ok (.aload_n 0, 1) := by decide +kernel
theorem dX0_record_12 : decode cX0_record 12 = .ok (.getfield 13, 3) := by decide +kernel
theorem dX0_record_15 : decode cX0_record 15 = .ok (.istore_n 2, 1) := by decide +kernel
theorem dX0_record_16 : decode cX0_record 16 = .ok (.aload_n 0, 1) := by decide +kernel
theorem dX0_record_17 : decode cX0_record 17 = .ok (.iload_n 1, 1) := by decide +kernel
theorem dX0_record_18 : decode cX0_record 18 = .ok (.putfield 13, 3) := by decide +kernel
theorem dX0_record_21 : decode cX0_record 21 = .ok (.iload_n 2, 1) := by decide +kernel
theorem dX0_record_22 : decode cX0_record 22 = .ok (.ireturn, 1) := by decide +kernel
set_option maxRecDepth 20000 in
theorem ggX0_limit_X0_isWind : GoodIn wsX0_limit wsX0_isWind := goodIn_r _ [5] (by decide +kernel) (by decide +kernel)
set_option maxRecDepth 20000 in
theorem gX0_limit_X0_isWind : GoodIn wsX0_limit (va_wsS RX0 45 yX0_isWind wsX0_isWind) := goodIn_app (goodIn_of _ (by decide +kernel)) ggX0_limit_X0_isWind
theorem dX0_limit_0 : decode cX0_limit 0 = .ok (.iload_n 1, 1) := by decide +kernel
theorem dX0_limit_1 : decode cX0_limit 1 = .ok (.invokestatic 45, 3) := by decide +kernel
theorem dX0_limit_4 : decode cX0_limit 4 = .ok (.ifCond .ne 7, 3) := by decide +kernel
theorem dX0_limit_7 : decode cX0_limit 7 = .ok (.sipush (-1000), 3) := by decide +kernel
theorem dX0_limit_10 : decode cX0_limit 10 = .ok (.ireturn, 1) := by decide +kernel
theorem dX0_limit_11 : decode cX0_limit 11 = .ok (.aload_n 0, 1) := by decide +kernel
theorem dX0_limit_12 : decode cX0_limit 12 = .ok (.getfield 16, 3) := by decide +kernel
theorem dX0_limit_15 : decode cX0_limit 15 = .ok (.istore_n 2, 1) := by decide +kernel
theorem dX0_limit_16 : decode cX0_limit 16 = .ok (.aload_n 0, 1) := by decide +kernel
theorem dX0_limit_17 : decode cX0_limit 17 = .ok (.iload_n 1, 1) := by decide +kernel
theorem dX0_limit_18 : decode cX0_limit 18 = .ok (.putfield 16, 3) := by decide +kernel
theorem dX0_limit_21 : decode cX0_limit 21 = .ok (.iload_n 2, 1) := by decide +kernel
theorem dX0_limit_22 : decode cX0_limit 22 = .ok (.ireturn, 1) := by decide +kernel
set_option maxRecDepth 20000 in
theorem ggX0_value_X0_isWhat : GoodIn wsX0_value wsX0_isWhat := goodIn_r _ [4] (by decide +kernel) (by decide +kernel)
set_option maxRecDepth 20000 in
theorem gX0_value_X0_isWhat : GoodIn wsX0_value (va_wsS RX0 52 yX0_isWhat wsX0_isWhat) := goodIn_app (goodIn_of _ (by decide +kernel)) ggX0_value_X0_isWhat
set_option maxRecDepth 20000 in
theorem ggX0_value_X0_isJumper : GoodIn wsX0_value wsX0_isJumper := goodIn_r _ [8, 9, 22, 23, 24, 25, 26, 27, 28, 29] (by decide +kernel) (by decide +kernel)
set_option maxRecDepth 20000 in
theorem gX0_value_X0_isJumper : GoodIn wsX0_value (wsV RX0 39 RX0 yX0_isJumper wsX0_isJumper) := goodIn_app (goodIn_of _ (by decide +kernel)) ggX0_value_X0_isJumper
set_option maxRecDepth 20000 in
theorem ggX0_value_X0_isRound : GoodIn wsX0_value wsX0_isRound := goodIn_r _ [12] (by decide +kernel) (by decide +kernel)
set_option maxRecDepth 20000 in
theorem gX0_value_X0_isRound : GoodIn wsX0_value (va_wsS RX0 55 yX0_isRound wsX0_isRound) := goodIn_app (goodIn_of _ (by decide +kernel)) ggX0_value_X0_isRound
set_option maxRecDepth 20000 in
theorem ggX0_value_X0_valueOf : GoodIn wsX0_value wsX0_valueOf := goodIn_r _ [16, 17, 18, 19, 20, 3, 21, 22, 23, 24, 25, 26, 27, 28, 29] (by decide +kernel) (by decide +kernel)
set_option maxRecDepth 20000 in
theorem gX0_value_X0_valueOf : GoodIn wsX0_value (wsV RX0 58 RX0 yX0_valueOf wsX0_valueOf) := goodIn_app (goodIn_of _ (by decide +kernel)) ggX0_value_X0_valueOf
theorem dX0_value_0 : decode cX0_value 0 = .ok (.iload_n 1, 1) := by decide +kernel
theorem dX0_value_1 : decode cX0_value 1 = .ok (.invokestatic 52, 3) := by decide +kernel
theorem dX0_value_4 : decode cX0_value 4 = .ok (.ifCond .eq 18, 3) := by decide +kernel
theorem dX0_value_7 : decode cX0_value 7 = .ok (.aload_n 0, 1) := by decide +kernel
theorem dX0_value_8 : decode cX0_value 8 = .ok (.iload_n 2, 1) := by decide +kernel
theorem dX0_value_9 : decode cX0_value 9 = .ok (.invokevirtual 39, 3) := by decide +kernel
theorem dX0_value_12 : decode cX0_value 12 = .ok (.ifCond .eq 10, 3) := by decide +kernel
theorem dX0_value_15 : decode cX0_value 15 = .ok (.iload_n 3, 1) := by decide +kernel
theorem dX0_value_16 : decode cX0_value 16 = .ok (.invokestatic 55, 3) := by decide +kernel
theorem dX0_value_19 : decode cX0_value 19 = .ok (.ifCond .ne 7, 3) := by decide +kernel
theorem dX0_value_22 : decode cX0_value 22 = .ok (.sipush (-1000), 3) := by decide +kernel
theorem dX0_value_25 : decode cX0_value 25 = .ok (.ireturn, 1) := by decide +kernel
theorem dX0_value_26 : decode cX0_value 26 = .ok (.aload_n 0, 1) := by decide +kernel
theorem dX0_value_27 : decode cX0_value 27 = .ok (.iload_n 1, 1) := by decide +kernel
theorem dX0_value_28 : decode cX0_value 28 = .ok (.iload_n 2, 1) := by decide +kernel
theorem dX0_value_29 : decode cX0_value 29 = .ok (.iload_n 3, 1) := by decide +kernel
theorem dX0_value_30 : decode cX0_value 30 = .ok (.invokevirtual 58, 3) := by decide +kernel
theorem dX0_value_33 : decode cX0_value 33 = .ok (.ireturn, 1) := by decide +kernel
set_option maxRecDepth 20000 in
theorem ggX0_fits_X0_isHow : GoodIn wsX0_fits wsX0_isHow := goodIn_r _ [4] (by decide +kernel) (by decide +kernel)
set_option maxRecDepth 20000 in
theorem gX0_fits_X0_isHow : GoodIn wsX0_fits (va_wsS RX0 62 yX0_isHow wsX0_isHow) := goodIn_app (goodIn_of _ (by decide +kernel)) ggX0_fits_X0_isHow
set_option maxRecDepth 20000 in
theorem ggX0_fits_X0_isWhat : GoodIn wsX0_fits wsX0_isWhat := goodIn_r _ [7] (by decide +kernel) (by decide +kernel)
set_option maxRecDepth 20000 in
theorem gX0_fits_X0_isWhat : GoodIn wsX0_fits (va_wsS RX0 52 yX0_isWhat wsX0_isWhat) := goodIn_app (goodIn_of _ (by decide +kernel)) ggX0_fits_X0_isWhat
set_option maxRecDepth 20000 in
theorem ggX0_fits_X0_isJumper : GoodIn wsX0_fits wsX0_isJumper := goodIn_r _ [11, 12, 34, 35, 36, 37, 38, 39, 40, 41] (by decide +kernel) (by decide +kernel)
set_option maxRecDepth 20000 in
theorem gX0_fits_X0_isJumper : GoodIn wsX0_fits (wsV RX0 39 RX0 yX0_isJumper wsX0_isJumper) := goodIn_app (goodIn_of _ (by decide +kernel)) ggX0_fits_X0_isJumper
set_option maxRecDepth 20000 in
theorem ggX0_fits_X0_isRound : GoodIn wsX0_fits wsX0_isRound := goodIn_r _ [15] (by decide +kernel) (by decide +kernel)
set_option maxRecDepth 20000 in
theorem gX0_fits_X0_isRound : GoodIn wsX0_fits (va_wsS RX0 55 yX0_isRound wsX0_isRound) := goodIn_app (goodIn_of _ (by decide +kernel)) ggX0_fits_X0_isRound
set_option maxRecDepth 20000 in
theorem ggX0_fits_X0_valueOf : GoodIn wsX0_fits wsX0_valueOf := goodIn_r _ [19, 20, 21, 22, 23, 3, 24, 34, 35, 36, 37, 38, 39, 40, 41] (by decide +kernel) (by decide +kernel)
set_option maxRecDepth 20000 in
theorem gX0_fits_X0_valueOf : GoodIn wsX0_fits (wsV RX0 58 RX0 yX0_valueOf wsX0_valueOf) := goodIn_app (goodIn_of _ (by decide +kernel)) ggX0_fits_X0_valueOf
set_option maxRecDepth 20000 in
theorem ggX0_fits_X0_valueFits : GoodIn wsX0_fits wsX0_valueFits := goodIn_r _ [27, 28, 29, 3, 30, 31, 32, 33] (by decide +kernel) (by decide +kernel)
set_option maxRecDepth 20000 in
theorem gX0_fits_X0_valueFits : GoodIn wsX0_fits (va_wsS RX0 65 yX0_valueFits wsX0_valueFits) := goodIn_app (goodIn_of _ (by decide +kernel)) ggX0_fits_X0_valueFits
theorem dX0_fits_0 : decode cX0_fits 0 = .ok (.iload_n 1, 1) := by decide +kernel
theorem dX0_fits_1 : decode cX0_fits 1 = .ok (.invokestatic 62, 3) := by decide +kernel
theorem dX0_fits_4 : decode cX0_fits 4 = .ok (.ifCond .eq 34, 3) := by decide +kernel
theorem dX0_fits_7 : decode cX0_fits 7 = .ok (.iload_n 2, 1) := by decide +kernel
theorem dX0_fits_8 : decode cX0_fits 8 = .ok (.invokestatic 52, 3) := by decide +kernel
theorem dX0_fits_11 : decode cX0_fits 11 = .ok (.ifCond .eq 27, 3) := by decide +kernel
theorem dX0_fits_14 : decode cX0_fits 14 = .ok (.aload_n 0, 1) := by decide +kernel
theorem dX0_fits_15 : decode cX0_fits 15 = .ok (.iload_n 3, 1) := by decide +kernel
theorem dX0_fits_16 : decode cX0_fits 16 = .ok (.invokevirtual 39, 3) := by decide +kernel
theorem dX0_fits_19 : decode cX0_fits 19 = .ok (.ifCond .eq 19, 3) := by decide +kernel
theorem dX0_fits_22 : decode cX0_fits 22 = .ok (.iload 4, 2) := by decide +kernel
theorem dX0_fits_24 : decode cX0_fits 24 = .ok (.invokestatic 55, 3) := by decide +kernel
theorem dX0_fits_27 : decode cX0_fits 27 = .ok (.ifCond .eq 11, 3) := by decide +kernel
theorem dX0_fits_30 : decode cX0_fits 30 = .ok (.iload 5, 2) := by decide +kernel
theorem dX0_fits_32 : decode cX0_fits 32 = .ok (.invokestatic 55, 3) := by decide +kernel
theorem dX0_fits_35 : decode cX0_fits 35 = .ok (.ifCond .ne 7, 3) := by decide +kernel
theorem dX0_fits_38 : decode cX0_fits 38 = .ok (.sipush (-1000), 3) := by decide +kernel
theorem dX0_fits_41 : decode cX0_fits 41 = .ok (.ireturn, 1) := by decide +kernel
theorem dX0_fits_42 : decode cX0_fits 42 = .ok (.iload_n 1, 1) := by decide +kernel
theorem dX0_fits_43 : decode cX0_fits 43 = .ok (.iload_n 2, 1) := by decide +kernel
theorem dX0_fits_44 : decode cX0_fits 44 = .ok (.aload_n 0, 1) := by decide +kernel
theorem dX0_fits_45 : decode cX0_fits 45 = .ok (.iload_n 2, 1) := by decide +kernel
theorem dX0_fits_46 : decode cX0_fits 46 = .ok (.iload_n 3, 1) := by decide +kernel
theorem dX0_fits_47 : decode cX0_fits 47 = .ok (.iload 4, 2) := by decide +kernel
theorem dX0_fits_49 : decode cX0_fits 49 = .ok (.invokevirtual 58, 3) := by decide +kernel
theorem dX0_fits_52 : decode cX0_fits 52 = .ok (.aload_n 0, 1) := by decide +kernel
theorem dX0_fits_53 : decode cX0_fits 53 = .ok (.iload_n 2, 1) := by decide +kernel
theorem dX0_fits_54 : decode cX0_fits 54 = .ok (.iload_n 3, 1) := by decide +kernel
theorem dX0_fits_55 : decode cX0_fits 55 = .ok (.iload 5, 2) := by decide +kernel
theorem dX0_fits_57 : decode cX0_fits 57 = .ok (.invokevirtual 58, 3) := by decide +kernel
theorem dX0_fits_60 : decode cX0_fits 60 = .ok (.invokestatic 65, 3) := by decide +kernel
theorem dX0_fits_63 : decode cX0_fits 63 = .ok (.ifCond .eq 7, 3) := by decide +kernel
theorem dX0_fits_66 : decode cX0_fits 66 = .ok (.iconst 1, 1) := by decide +kernel
theorem dX0_fits_67 : decode cX0_fits 67 = .ok (.goto 4, 3) := by decide +kernel
theorem dX0_fits_70 : decode cX0_fits 70 = .ok (.iconst 0, 1) := by decide +kernel
theorem dX0_fits_71 : decode cX0_fits 71 = .ok (.ireturn, 1) := by decide +kernel
set_option maxRecDepth 20000 in
theorem ggX0_count_X0_isQuestion : GoodIn wsX0_count wsX0_isQuestion := goodIn_r _ [5, 6, 7, 4, 8, 9, 10, 11, 12, 13, 14, 15, 16, 17, 18, 19, 20, 21, 22, 41, 42, 43, 44, 45, 46, 47, 48] (by decide +kernel) (by decide +kernel)
set_option maxRecDepth 20000 in
theorem gX0_count_X0_isQuestion : GoodIn wsX0_count (wsV RX0 69 RX0 yX0_isQuestion wsX0_isQuestion) := goodIn_app (goodIn_of _ (by decide +kernel)) ggX0_count_X0_isQuestion
set_option maxRecDepth 20000 in
theorem ggX0_count_X0_valueOf : GoodIn wsX0_count wsX0_valueOf := goodIn_r _ [26, 27, 28, 29, 30, 4, 31, 41, 42, 43, 44, 45, 46, 47, 48] (by decide +kernel) (by decide +kernel)
set_option maxRecDepth 20000 in
theorem gX0_count_X0_valueOf : GoodIn wsX0_count (wsV RX0 58 RX0 yX0_valueOf wsX0_valueOf) := goodIn_app (goodIn_of _ (by decide +kernel)) ggX0_count_X0_valueOf
set_option maxRecDepth 20000 in
theorem ggX0_count_X0_valueFits : GoodIn wsX0_count wsX0_valueFits := goodIn_r _ [34, 35, 36, 4, 37, 38, 39, 40] (by decide +kernel) (by decide +kernel)
set_option maxRecDepth 20000 in
theorem gX0_count_X0_valueFits : GoodIn wsX0_count (va_wsS RX0 65 yX0_valueFits wsX0_valueFits) := goodIn_app (goodIn_of _ (by decide +kernel)) ggX0_count_X0_valueFits
theorem dX0_count_0 : decode cX0_count 0 = .ok (.aload_n 0, 1) := by decide +kernel
theorem dX0_count_1 : decode cX0_count 1 = .ok (.iload_n 1, 1) := by decide +kernel
theorem dX0_count_2 : decode cX0_count 2 = .ok (.iload_n 2, 1) := by decide +kernel
theorem dX0_count_3 : decode cX0_count 3 = .ok (.iload_n 3, 1) := by decide +kernel
theorem dX0_count_4 : decode cX0_count 4 = .ok (.iload 4, 2) := by decide +kernel
theorem dX0_count_6 : decode cX0_count 6 = .ok (.invokevirtual 69, 3) := by decide +kernel
theorem dX0_count_9 : decode cX0_count 9 = .ok (.ifCond .ne 7, 3) := by decide +kernel
theorem dX0_count_12 : decode cX0_count 12 = .ok (.sipush (-1000), 3) := by decide +kernel
theorem dX0_count_15 : decode cX0_count 15 = .ok (.ireturn, 1) := by decide +kernel
theorem dX0_count_16 : decode cX0_count 16 = .ok (.iconst 0, 1) := by decide +kernel
theorem dX0_count_17 : decode cX0_count 17 = .ok (.istore 5, 2) := by decide +kernel
theorem dX0_count_19 : decode cX0_count 19 = .ok (.iconst 0, 1) := by decide +kernel
theorem dX0_count_20 : decode cX0_count 20 = .ok (.istore 6, 2) := by decide +kernel
theorem dX0_count_22 : decode cX0_count 22 = .ok (.iload 6, 2) := by decide +kernel
theorem dX0_count_24 : decode cX0_count 24 = .ok (.bipush 6, 2) := by decide +kernel
theorem dX0_count_26 : decode cX0_count 26 = .ok (.if_icmp .ge 30, 3) := by decide +kernel
theorem dX0_count_29 : decode cX0_count 29 = .ok (.iload_n 1, 1) := by decide +kernel
theorem dX0_count_30 : decode cX0_count 30 = .ok (.iload_n 2, 1) := by decide +kernel
theorem dX0_count_31 : decode cX0_count 31 = .ok (.aload_n 0, 1) := by decide +kernel
theorem dX0_count_32 : decode cX0_count 32 = .ok (.iload_n 2, 1) := by decide +kernel
theorem dX0_count_33 : decode cX0_count 33 = .ok (.iload_n 3, 1) := by decide +kernel
theorem dX0_count_34 : decode cX0_count 34 = .ok (.iload 6, 2) := by decide +kernel
theorem dX0_count_36 : decode cX0_count 36 = .ok (.invokevirtual 58, 3) := by decide +kernel
theorem dX0_count_39 : decode cX0_count 39 = .ok (.iload 4, 2) := by decide +kernel
theorem dX0_count_41 : decode cX0_count 41 = .ok (.invokestatic 65, 3) := by decide +kernel
theorem dX0_count_44 : decode cX0_count 44 = .ok (.ifCond .eq 6, 3) := by decide +kernel
theorem dX0_count_47 : decode cX0_count 47 = .ok (.iinc 5 1, 3) := by decide +kernel
theorem dX0_count_50 : decode cX0_count 50 = .ok (.iinc 6 1, 3) := by decide +kernel
theorem dX0_count_53 : decode cX0_count 53 = .ok (.goto (-31), 3) := by decide +kernel
theorem dX0_count_56 : decode cX0_count 56 = .ok (.iload 5, 2) := by decide +kernel
theorem dX0_count_58 : decode cX0_count 58 = .ok (.ireturn, 1) := by decide +kernel
set_option maxRecDepth 20000 in
theorem ggX0_turned_X0_isQuestion : GoodIn wsX0_turned wsX0_isQuestion := goodIn_r _ [5, 6, 7, 4, 8, 9, 10, 11, 12, 13, 14, 15, 16, 17, 18, 19, 20, 21, 22, 41, 42, 43, 44, 45, 46, 47, 48] (by decide +kernel) (by decide +kernel)
set_option maxRecDepth 20000 in
theorem gX0_turned_X0_isQuestion : GoodIn wsX0_turned (wsV RX0 69 RX0 yX0_isQuestion wsX0_isQuestion) := goodIn_app (goodIn_of _ (by decide +kernel)) ggX0_turned_X0_isQuestion
set_option maxRecDepth 20000 in
theorem ggX0_turned_X0_valueOf : GoodIn wsX0_turned wsX0_valueOf := goodIn_r _ [26, 27, 28, 29, 30, 4, 31, 41, 42, 43, 44, 45, 46, 47, 48] (by decide +kernel) (by decide +kernel)
set_option maxRecDepth 20000 in
theorem gX0_turned_X0_valueOf : GoodIn wsX0_turned (wsV RX0 58 RX0 yX0_valueOf wsX0_valueOf) := goodIn_app (goodIn_of _ (by decide +kernel)) ggX0_turned_X0_valueOf
set_option maxRecDepth 20000 in
theorem ggX0_turned_X0_valueFits : GoodIn wsX0_turned wsX0_valueFits := goodIn_r _ [34, 35, 36, 4, 37, 38, 39, 40] (by decide +kernel) (by decide +kernel)
set_option maxRecDepth 20000 in
theorem gX0_turned_X0_valueFits : GoodIn wsX0_turned (va_wsS RX0 65 yX0_valueFits wsX0_valueFits) := goodIn_app (goodIn_of _ (by decide +kernel)) ggX0_turned_X0_valueFits
theorem dX0_turned_0 : decode cX0_turned 0 = .ok (.aload_n 0, 1) := by decide +kernel
theorem dX0_turned_1 : decode cX0_turned 1 = .ok (.iload_n 1, 1) := by decide +kernel
theorem dX0_turned_2 : decode cX0_turned 2 = .ok (.iload_n 2, 1) := by decide +kernel
theorem dX0_turned_3 : decode cX0_turned 3 = .ok (.iload_n 3, 1) := by decide +kernel
theorem dX0_turned_4 : decode cX0_turned 4 = .ok (.iload 4, 2) := by decide +kernel
theorem dX0_turned_6 : decode cX0_turned 6 = .ok (.invokevirtual 69, 3) := by decide +kernel
theorem dX0_turned_9 : decode cX0_turned 9 = .ok (.ifCond .ne 7, 3) := by decide +kernel
theorem dX0_turned_12 : decode cX0_turned 12 = .ok (.sipush (-1000), 3) := by decide +kernel
theorem dX0_turned_15 : decode cX0_turned 15 = .ok (.ireturn, 1) := by decide +kernel
theorem dX0_turned_16 : decode cX0_turned 16 = .ok (.iconst 0, 1) := by decide +kernel
theorem dX0_turned_17 : decode cX0_turned 17 = .ok (.istore 5, 2) := by decide +kernel
theorem dX0_turned_19 : decode cX0_turned 19 = .ok (.iconst 0, 1) := by decide +kernel
theorem dX0_turned_20 : decode cX0_turned 20 = .ok (.istore 6, 2) := by decide +kernel
theorem dX0_turned_22 : decode cX0_turned 22 = .ok (.iload 6, 2) := by decide +kernel
theorem dX0_turned_24 : decode cX0_turned 24 = .ok (.bipush 6, 2) := by decide +kernel
theorem dX0_turned_26 : decode cX0_turned 26 = .ok (.if_icmp .ge 30, 3) := by decide +kernel
theorem dX0_turned_29 : decode cX0_turned 29 = .ok (.iload_n 1, 1) := by decide +kernel
theorem dX0_turned_30 : decode cX0_turned 30 = .ok (.iload_n 2, 1) := by decide +kernel
theorem dX0_turned_31 : decode cX0_turned 31 = .ok (.iload 4, 2) := by decide +kernel
theorem dX0_turned_33 : decode cX0_turned 33 = .ok (.aload_n 0, 1) := by decide +kernel
theorem dX0_turned_34 : decode cX0_turned 34 = .ok (.iload_n 2, 1) := by decide +kernel
theorem dX0_turned_35 : decode cX0_turned 35 = .ok (.iload_n 3, 1) := by decide +kernel
theorem dX0_turned_36 : decode cX0_turned 36 = .ok (.iload 6, 2) := by decide +kernel
theorem dX0_turned_38 : decode cX0_turned 38 = .ok (.invokevirtual 58, 3) := by decide +kernel
theorem dX0_turned_41 : decode cX0_turned 41 = .ok (.invokestatic 65, 3) := by decide +kernel
theorem dX0_turned_44 : decode cX0_turned 44 = .ok (.ifCond .eq 6, 3) := by decide +kernel
theorem dX0_turned_47 : decode cX0_turned 47 = .ok (.iinc 5 1, 3) := by decide +kernel
theorem dX0_turned_50 : decode cX0_turned 50 = .ok (.iinc 6 1, 3) := by decide +kernel
theorem dX0_turned_53 : decode cX0_turned 53 = .ok (.goto (-31), 3) := by decide +kernel
theorem dX0_turned_56 : decode cX0_turned 56 = .ok (.iload 5, 2) := by decide +kernel
theorem dX0_turned_58 : decode cX0_turned 58 = .ok (.ireturn, 1) := by decide +kernel
set_option maxRecDepth 20000 in
theorem ggX0_longest_X0_isQuestion : GoodIn wsX0_longest wsX0_isQuestion := goodIn_r _ [9, 10, 11, 8, 12, 13, 14, 15, 16, 17, 18, 19, 20, 21, 22, 23, 24, 25, 26, 45, 46, 47, 48, 49, 50, 51, 52] (by decide +kernel) (by decide +kernel)
set_option maxRecDepth 20000 in
theorem gX0_longest_X0_isQuestion : GoodIn wsX0_longest (wsV RX0 69 RX0 yX0_isQuestion wsX0_isQuestion) := goodIn_app (goodIn_of _ (by decide +kernel)) ggX0_longest_X0_isQuestion
set_option maxRecDepth 20000 in
theorem ggX0_longest_X0_valueOf : GoodIn wsX0_longest wsX0_valueOf := goodIn_r _ [30, 31, 32, 33, 34, 8, 35, 45, 46, 47, 48, 49, 50, 51, 52] (by decide +kernel) (by decide +kernel)
set_option maxRecDepth 20000 in
theorem gX0_longest_X0_valueOf : GoodIn wsX0_longest (wsV RX0 58 RX0 yX0_valueOf wsX0_valueOf) := goodIn_app (goodIn_of _ (by decide +kernel)) ggX0_longest_X0_valueOf
set_option maxRecDepth 20000 in
theorem ggX0_longest_X0_valueFits : GoodIn wsX0_longest wsX0_valueFits := goodIn_r _ [38, 39, 40, 8, 41, 42, 43, 44] (by decide +kernel) (by decide +kernel)
set_option maxRecDepth 20000 in
theorem gX0_longest_X0_valueFits : GoodIn wsX0_longest (va_wsS RX0 65 yX0_valueFits wsX0_valueFits) := goodIn_app (goodIn_of _ (by decide +kernel)) ggX0_longest_X0_valueFits
theorem dX0_longest_0 : decode cX0_longest 0 = .ok (.aload_n 0, 1) := by decide +kernel
theorem dX0_longest_1 : decode cX0_longest 1 = .ok (.iload_n 1, 1) := by decide +kernel
theorem dX0_longest_2 : decode cX0_longest 2 = .ok (.iload_n 2, 1) := by decide +kernel
theorem dX0_longest_3 : decode cX0_longest 3 = .ok (.iload_n 3, 1) := by decide +kernel
theorem dX0_longest_4 : decode cX0_longest 4 = .ok (.iload 4, 2) := by decide +kernel
theorem dX0_longest_6 : decode cX0_longest 6 = .ok (.invokevirtual 69, 3) := by decide +kernel
theorem dX0_longest_9 : decode cX0_longest 9 = .ok (.ifCond .ne 7, 3) := by decide +kernel
theorem dX0_longest_12 : decode cX0_longest 12 = .ok (.sipush (-1000), 3) := by decide +kernel
theorem dX0_longest_15 : decode cX0_longest 15 = .ok (.ireturn, 1) := by decide +kernel
theorem dX0_longest_16 : decode cX0_longest 16 = .ok (.iconst 0, 1) := by decide +kernel
theorem dX0_longest_17 : decode cX0_longest 17 = .ok (.istore 5, 2) := by decide +kernel
theorem dX0_longest_19 : decode cX0_longest 19 = .ok (.iconst 0, 1) := by decide +kernel
theorem dX0_longest_20 : decode cX0_longest 20 = .ok (.istore 6, 2) := by decide +kernel
theorem dX0_longest_22 : decode cX0_longest 22 = .ok (.iconst 0, 1) := by decide +kernel
theorem dX0_longest_23 : decode cX0_longest 23 = .ok (.istore 7, 2) := by decide +kernel
theorem dX0_longest_25 : decode cX0_longest 25 = .ok (.iload 7, 2) := by decide +kernel
theorem dX0_longest_27 : decode cX0_longest 27 = .ok (.bipush 6, 2) := by decide +kernel
theorem dX0_longest_29 : decode cX0_longest 29 = .ok (.if_icmp .ge 46, 3) := by decide +kernel
theorem dX0_longest_32 : decode cX0_longest 32 = .ok (.iload_n 1, 1) := by decide +kernel
theorem dX0_longest_33 : decode cX0_longest 33 = .ok (.iload_n 2, 1) := by decide +kernel
theorem dX0_longest_34 : decode cX0_longest 34 = .ok (.aload_n 0, 1) := by decide +kernel
theorem dX0_longest_35 : decode cX0_longest 35 = .ok (.iload_n 2, 1) := by decide +kernel
theorem dX0_longest_36 : decode cX0_longest 36 = .ok (.iload_n 3, 1) := by decide +kernel
theorem dX0_longest_37 : decode cX0_longest 37 = .ok (.iload 7, 2) := by decide +kernel
theorem dX0_longest_39 : decode cX0_longest 39 = .ok (.invokevirtual 58, 3) := by decide +kernel
theorem dX0_longest_42 : decode cX0_longest 42 = .ok (.iload 4, 2) := by decide +kernel
theorem dX0_longest_44 : decode cX0_longest 44 = .ok (.invokestatic 65, 3) := by decide +kernel
theorem dX0_longest_47 : decode cX0_longest 47 = .ok (.ifCond .eq 7, 3) := by decide +kernel
theorem dX0_longest_50 : decode cX0_longest 50 = .ok (.iconst 0, 1) := by decide +kernel
theorem dX0_longest_51 : decode cX0_longest 51 = .ok (.goto 7, 3) := by decide +kernel
theorem dX0_longest_54 : decode cX0_longest 54 = .ok (.iload 6, 2) := by decide +kernel
theorem dX0_longest_56 : decode cX0_longest 56 = .ok (.iconst 1, 1) := by decide +kernel
theorem dX0_longest_57 : decode cX0_longest 57 = .ok (.iadd, 1) := by decide +kernel
theorem dX0_longest_58 : decode cX0_longest 58 = .ok (.istore 6, 2) := by decide +kernel
theorem dX0_longest_60 : decode cX0_longest 60 = .ok (.iload 5, 2) := by decide +kernel
theorem dX0_longest_62 : decode cX0_longest 62 = .ok (.iload 6, 2) := by decide +kernel
theorem dX0_longest_64 : decode cX0_longest 64 = .ok (.invokestatic 72, 3) := by decide +kernel
theorem dX0_longest_67 : decode cX0_longest 67 = .ok (.istore 5, 2) := by decide +kernel
theorem dX0_longest_69 : decode cX0_longest 69 = .ok (.iinc 7 1, 3) := by decide +kernel
theorem dX0_longest_72 : decode cX0_longest 72 = .ok (.goto (-47), 3) := by decide +kernel
theorem dX0_longest_75 : decode cX0_longest 75 = .ok (.iload 5, 2) := by decide +kernel
theorem dX0_longest_77 : decode cX0_longest 77 = .ok (.ireturn, 1) := by decide +kernel
set_option maxRecDepth 20000 in
theorem ggX0_skip_X0_isQuestion : GoodIn wsX0_skip wsX0_isQuestion := goodIn_r _ [5, 6, 7, 4, 8, 9, 10, 11, 12, 13, 14, 15, 16, 17, 18, 19, 20, 21, 22, 44, 45, 46, 47, 48, 49, 50, 51] (by decide +kernel) (by decide +kernel)
set_option maxRecDepth 20000 in
theorem gX0_skip_X0_isQuestion : GoodIn wsX0_skip (wsV RX0 69 RX0 yX0_isQuestion wsX0_isQuestion) := goodIn_app (goodIn_of _ (by decide +kernel)) ggX0_skip_X0_isQuestion
set_option maxRecDepth 20000 in
theorem ggX0_skip_X0_isRound : GoodIn wsX0_skip wsX0_isRound := goodIn_r _ [25] (by decide +kernel) (by decide +kernel)
set_option maxRecDepth 20000 in
theorem gX0_skip_X0_isRound : GoodIn wsX0_skip (va_wsS RX0 55 yX0_isRound wsX0_isRound) := goodIn_app (goodIn_of _ (by decide +kernel)) ggX0_skip_X0_isRound
set_option maxRecDepth 20000 in
theorem ggX0_skip_X0_valueOf : GoodIn wsX0_skip wsX0_valueOf := goodIn_r _ [29, 30, 31, 32, 33, 4, 34, 44, 45, 46, 47, 48, 49, 50, 51] (by decide +kernel) (by decide +kernel)
set_option maxRecDepth 20000 in
theorem gX0_skip_X0_valueOf : GoodIn wsX0_skip (wsV RX0 58 RX0 yX0_valueOf wsX0_valueOf) := goodIn_app (goodIn_of _ (by decide +kernel)) ggX0_skip_X0_valueOf
set_option maxRecDepth 20000 in
theorem ggX0_skip_X0_valueFits : GoodIn wsX0_skip wsX0_valueFits := goodIn_r _ [37, 38, 39, 4, 40, 41, 42, 43] (by decide +kernel) (by decide +kernel)
set_option maxRecDepth 20000 in
theorem gX0_skip_X0_valueFits : GoodIn wsX0_skip (va_wsS RX0 65 yX0_valueFits wsX0_valueFits) := goodIn_app (goodIn_of _ (by decide +kernel)) ggX0_skip_X0_valueFits
theorem dX0_skip_0 : decode cX0_skip 0 = .ok (.aload_n 0, 1) := by decide +kernel
theorem dX0_skip_1 : decode cX0_skip 1 = .ok (.iload_n 1, 1) := by decide +kernel
theorem dX0_skip_2 : decode cX0_skip 2 = .ok (.iload_n 2, 1) := by decide +kernel
theorem dX0_skip_3 : decode cX0_skip 3 = .ok (.iload_n 3, 1) := by decide +kernel
theorem dX0_skip_4 : decode cX0_skip 4 = .ok (.iload 5, 2) := by decide +kernel
theorem dX0_skip_6 : decode cX0_skip 6 = .ok (.invokevirtual 69, 3) := by decide +kernel
theorem dX0_skip_9 : decode cX0_skip 9 = .ok (.ifCond .eq 11, 3) := by decide +kernel
theorem dX0_skip_12 : decode cX0_skip 12 = .ok (.iload 4, 2) := by decide +kernel
theorem dX0_skip_14 : decode cX0_skip 14 = .ok (.invokestatic 55, 3) := by decide +kernel
theorem dX0_skip_17 : decode cX0_skip 17 = .ok (.ifCond .ne 7, 3) := by decide +kernel
theorem dX0_skip_20 : decode cX0_skip 20 = .ok (.sipush (-1000), 3) := by decide +kernel
theorem dX0_skip_23 : decode cX0_skip 23 = .ok (.ireturn, 1) := by decide +kernel
theorem dX0_skip_24 : decode cX0_skip 24 = .ok (.iload 4, 2) := by decide +kernel
theorem dX0_skip_26 : decode cX0_skip 26 = .ok (.istore 6, 2) := by decide +kernel
theorem dX0_skip_28 : decode cX0_skip 28 = .ok (.iload 6, 2) := by decide +kernel
theorem dX0_skip_30 : decode cX0_skip 30 = .ok (.bipush 6, 2) := by decide +kernel
theorem dX0_skip_32 : decode cX0_skip 32 = .ok (.if_icmp .ge 30, 3) := by decide +kernel
theorem dX0_skip_35 : decode cX0_skip 35 = .ok (.iload_n 1, 1) := by decide +kernel
theorem dX0_skip_36 : decode cX0_skip 36 = .ok (.iload_n 2, 1) := by decide +kernel
theorem dX0_skip_37 : decode cX0_skip 37 = .ok (.aload_n 0, 1) := by decide +kernel
theorem dX0_skip_38 : decode cX0_skip 38 = .ok (.iload_n 2, 1) := by decide +kernel
theorem dX0_skip_39 : decode cX0_skip 39 = .ok (.iload_n 3, 1) := by decide +kernel
theorem dX0_skip_40 : decode cX0_skip 40 = .ok (.iload 6, 2) := by decide +kernel
theorem dX0_skip_42 : decode cX0_skip 42 = .ok (.invokevirtual 58, 3) := by decide +kernel
theorem dX0_skip_45 : decode cX0_skip 45 = .ok (.iload 5, 2) := by decide +kernel
theorem dX0_skip_47 : decode cX0_skip 47 = .ok (.invokestatic 65, 3) := by decide +kernel
theorem dX0_skip_50 : decode cX0_skip 50 = .ok (.ifCond .ne 6, 3) := by decide +kernel
theorem dX0_skip_53 : decode cX0_skip 53 = .ok (.iload 6, 2) := by decide +kernel
theorem dX0_skip_55 : decode cX0_skip 55 = .ok (.ireturn, 1) := by decide +kernel
theorem dX0_skip_56 : decode cX0_skip 56 = .ok (.iinc 6 1, 3) := by decide +kernel
theorem dX0_skip_59 : decode cX0_skip 59 = .ok (.goto (-31), 3) := by decide +kernel
theorem dX0_skip_62 : decode cX0_skip 62 = .ok (.bipush 6, 2) := by decide +kernel
theorem dX0_skip_64 : decode cX0_skip 64 = .ok (.ireturn, 1) := by decide +kernel
set_option maxRecDepth 20000 in
theorem ggX0_pick_X0_isQuestion : GoodIn wsX0_pick wsX0_isQuestion := goodIn_r _ [5, 6, 7, 4, 8, 9, 10, 11, 12, 13, 14, 15, 16, 17, 18, 19, 20, 21, 22, 41, 42, 43, 44, 45, 46, 47, 48] (by decide +kernel) (by decide +kernel)
set_option maxRecDepth 20000 in
theorem gX0_pick_X0_isQuestion : GoodIn wsX0_pick (wsV RX0 69 RX0 yX0_isQuestion wsX0_isQuestion) := goodIn_app (goodIn_of _ (by decide +kernel)) ggX0_pick_X0_isQuestion
set_option maxRecDepth 20000 in
theorem ggX0_pick_X0_valueOf : GoodIn wsX0_pick wsX0_valueOf := goodIn_r _ [26, 27, 28, 29, 30, 4, 31, 41, 42, 43, 44, 45, 46, 47, 48] (by decide +kernel) (by decide +kernel)
set_option maxRecDepth 20000 in
theorem gX0_pick_X0_valueOf : GoodIn wsX0_pick (wsV RX0 58 RX0 yX0_valueOf wsX0_valueOf) := goodIn_app (goodIn_of _ (by decide +kernel)) ggX0_pick_X0_valueOf
set_option maxRecDepth 20000 in
theorem ggX0_pick_X0_valueFits : GoodIn wsX0_pick wsX0_valueFits := goodIn_r _ [34, 35, 36, 4, 37, 38, 39, 40] (by decide +kernel) (by decide +kernel)
set_option maxRecDepth 20000 in
theorem gX0_pick_X0_valueFits : GoodIn wsX0_pick (va_wsS RX0 65 yX0_valueFits wsX0_valueFits) := goodIn_app (goodIn_of _ (by decide +kernel)) ggX0_pick_X0_valueFits
theorem dX0_pick_0 : decode cX0_pick 0 = .ok (.aload_n 0, 1) := by decide +kernel
theorem dX0_pick_1 : decode cX0_pick 1 = .ok (.iload_n 1, 1) := by decide +kernel
theorem dX0_pick_2 : decode cX0_pick 2 = .ok (.iload_n 2, 1) := by decide +kernel
theorem dX0_pick_3 : decode cX0_pick 3 = .ok (.iload_n 3, 1) := by decide +kernel
theorem dX0_pick_4 : decode cX0_pick 4 = .ok (.iload 4, 2) := by decide +kernel
theorem dX0_pick_6 : decode cX0_pick 6 = .ok (.invokevirtual 69, 3) := by decide +kernel
theorem dX0_pick_9 : decode cX0_pick 9 = .ok (.ifCond .ne 7, 3) := by decide +kernel
theorem dX0_pick_12 : decode cX0_pick 12 = .ok (.sipush (-1000), 3) := by decide +kernel
theorem dX0_pick_15 : decode cX0_pick 15 = .ok (.ireturn, 1) := by decide +kernel
theorem dX0_pick_16 : decode cX0_pick 16 = .ok (.iload 4, 2) := by decide +kernel
theorem dX0_pick_18 : decode cX0_pick 18 = .ok (.istore 5, 2) := by decide +kernel
theorem dX0_pick_20 : decode cX0_pick 20 = .ok (.iconst 0, 1) := by decide +kernel
theorem dX0_pick_21 : decode cX0_pick 21 = .ok (.istore 6, 2) := by decide +kernel
theorem dX0_pick_23 : decode cX0_pick 23 = .ok (.iload 6, 2) := by decide +kernel
theorem dX0_pick_25 : decode cX0_pick 25 = .ok (.bipush 6, 2) := by decide +kernel
theorem dX0_pick_27 : decode cX0_pick 27 = .ok (.if_icmp .ge 35, 3) := by decide +kernel
theorem dX0_pick_30 : decode cX0_pick 30 = .ok (.aload_n 0, 1) := by decide +kernel
theorem dX0_pick_31 : decode cX0_pick 31 = .ok (.iload_n 2, 1) := by decide +kernel
theorem dX0_pick_32 : decode cX0_pick 32 = .ok (.iload_n 3, 1) := by decide +kernel
theorem dX0_pick_33 : decode cX0_pick 33 = .ok (.iload 6, 2) := by decide +kernel
theorem dX0_pick_35 : decode cX0_pick 35 = .ok (.invokevirtual 58, 3) := by decide +kernel
theorem dX0_pick_38 : decode cX0_pick 38 = .ok (.istore 7, 2) := by decide +kernel
theorem dX0_pick_40 : decode cX0_pick 40 = .ok (.iload_n 1, 1) := by decide +kernel
theorem dX0_pick_41 : decode cX0_pick 41 = .ok (.iload_n 2, 1) := by decide +kernel
theorem dX0_pick_42 : decode cX0_pick 42 = .ok (.iload 7, 2) := by decide +kernel
theorem dX0_pick_44 : decode cX0_pick 44 = .ok (.iload 5, 2) := by decide +kernel
theorem dX0_pick_46 : decode cX0_pick 46 = .ok (.invokestatic 65, 3) := by decide +kernel
theorem dX0_pick_49 : decode cX0_pick 49 = .ok (.ifCond .eq 7, 3) := by decide +kernel
theorem dX0_pick_52 : decode cX0_pick 52 = .ok (.iload 7, 2) := by decide +kernel
theorem dX0_pick_54 : decode cX0_pick 54 = .ok (.istore 5, 2) := by decide +kernel
theorem dX0_pick_56 : decode cX0_pick 56 = .ok (.iinc 6 1, 3) := by decide +kernel
theorem dX0_pick_59 : decode cX0_pick 59 = .ok (.goto (-36), 3) := by decide +kernel
theorem dX0_pick_62 : decode cX0_pick 62 = .ok (.iload 5, 2) := by decide +kernel
theorem dX0_pick_64 : decode cX0_pick 64 = .ok (.ireturn, 1) := by decide +kernel
set_option maxRecDepth 20000 in
theorem ggX0_best_X0_isJumper : GoodIn wsX0_best wsX0_isJumper := goodIn_r _ [5, 6, 34, 35, 36, 37, 38, 39, 40, 41] (by decide +kernel) (by decide +kernel)
set_option maxRecDepth 20000 in
theorem gX0_best_X0_isJumper : GoodIn wsX0_best (wsV RX0 39 RX0 yX0_isJumper wsX0_isJumper) := goodIn_app (goodIn_of _ (by decide +kernel)) ggX0_best_X0_isJumper
set_option maxRecDepth 20000 in
theorem ggX0_best_X0_bestOf : GoodIn wsX0_best wsX0_bestOf := goodIn_r _ [10, 11, 12, 13, 14, 15, 16, 17, 18, 4, 19, 20, 21, 22, 23, 24, 25, 26, 27, 28, 29, 30, 31, 32, 33, 34, 35, 36, 37, 38, 39, 40, 41] (by decide +kernel) (by decide +kernel)
set_option maxRecDepth 20000 in
theorem gX0_best_X0_bestOf : GoodIn wsX0_best (wsV RX0 77 RX0 yX0_bestOf wsX0_bestOf) := goodIn_app (goodIn_of _ (by decide +kernel)) ggX0_best_X0_bestOf
theorem dX0_best_0 : decode cX0_best 0 = .ok (.aload_n 0, 1) := by decide +kernel
theorem dX0_best_1 : decode cX0_best 1 = .ok (.iload_n 1, 1) := by decide +kernel
theorem dX0_best_2 : decode cX0_best 2 = .ok (.invokevirtual 39, 3) := by decide +kernel
theorem dX0_best_5 : decode cX0_best 5 = .ok (.ifCond .ne 7, 3) := by decide +kernel
theorem dX0_best_8 : decode cX0_best 8 = .ok (.sipush (-1000), 3) := by decide +kernel
theorem dX0_best_11 : decode cX0_best 11 = .ok (.ireturn, 1) := by decide +kernel
theorem dX0_best_12 : decode cX0_best 12 = .ok (.aload_n 0, 1) := by decide +kernel
theorem dX0_best_13 : decode cX0_best 13 = .ok (.iload_n 1, 1) := by decide +kernel
theorem dX0_best_14 : decode cX0_best 14 = .ok (.invokevirtual 77, 3) := by decide +kernel
theorem dX0_best_17 : decode cX0_best 17 = .ok (.ireturn, 1) := by decide +kernel
set_option maxRecDepth 20000 in
theorem ggX0_ahead_X0_isJumper : GoodIn wsX0_ahead wsX0_isJumper := goodIn_r _ [5, 6, 39, 40, 41, 42, 43, 44, 45, 46] (by decide +kernel) (by decide +kernel)
set_option maxRecDepth 20000 in
theorem gX0_ahead_X0_isJumper : GoodIn wsX0_ahead (wsV RX0 39 RX0 yX0_isJumper wsX0_isJumper) := goodIn_app (goodIn_of _ (by decide +kernel)) ggX0_ahead_X0_isJumper
set_option maxRecDepth 20000 in
theorem ggX0_ahead_X0_layOut : GoodIn wsX0_ahead wsX0_layOut := goodIn_r _ [10, 11, 12, 13, 14, 4, 15, 16, 17, 18, 19, 20, 21, 22, 23, 24, 25, 26, 27, 28, 29, 30, 31, 32, 33, 34, 39, 40, 41, 42, 43, 44, 45, 46] (by decide +kernel) (by decide +kernel)
set_option maxRecDepth 20000 in
theorem gX0_ahead_X0_layOut : GoodIn wsX0_ahead (wsV RX0 81 RX0 yX0_layOut wsX0_layOut) := goodIn_app (goodIn_of _ (by decide +kernel)) ggX0_ahead_X0_layOut
set_option maxRecDepth 20000 in
theorem ggX0_ahead_X0_isAhead : GoodIn wsX0_ahead wsX0_isAhead := goodIn_r _ [38, 11, 13, 14, 4, 15, 39, 40, 41, 42, 43, 44, 45, 46] (by decide +kernel) (by decide +kernel)
set_option maxRecDepth 20000 in
theorem gX0_ahead_X0_isAhead : GoodIn wsX0_ahead (wsV RX0 85 RX0 yX0_isAhead wsX0_isAhead) := goodIn_app (goodIn_of _ (by decide +kernel)) ggX0_ahead_X0_isAhead
theorem dX0_ahead_0 : decode cX0_ahead 0 = .ok (.aload_n 0, 1) := by decide +kernel
theorem dX0_ahead_1 : decode cX0_ahead 1 = .ok (.iload_n 1, 1) := by decide +kernel
theorem dX0_ahead_2 : decode cX0_ahead 2 = .ok (.invokevirtual 39, 3) := by decide +kernel
theorem dX0_ahead_5 : decode cX0_ahead 5 = .ok (.ifCond .eq 11, 3) := by decide +kernel
theorem dX0_ahead_8 : decode cX0_ahead 8 = .ok (.aload_n 0, 1) := by decide +kernel
theorem dX0_ahead_9 : decode cX0_ahead 9 = .ok (.iload_n 2, 1) := by decide +kernel
theorem dX0_ahead_10 : decode cX0_ahead 10 = .ok (.invokevirtual 39, 3) := by decide +kernel
theorem dX0_ahead_13 : decode cX0_ahead 13 = .ok (.ifCond .ne 7, 3) := by decide +kernel
theorem dX0_ahead_16 : decode cX0_ahead 16 = .ok (.sipush (-1000), 3) := by decide +kernel
theorem dX0_ahead_19 : decode cX0_ahead 19 = .ok (.ireturn, 1) := by decide +kernel
theorem dX0_ahead_20 : decode cX0_ahead 20 = .ok (.aload_n 0, 1) := by decide +kernel
theorem dX0_ahead_21 : decode cX0_ahead 21 = .ok (.iload_n 1, 1) := by decide +kernel
theorem dX0_ahead_22 : decode cX0_ahead 22 = .ok (.invokevirtual 81, 3) := by decide +kernel
theorem dX0_ahead_25 : decode cX0_ahead 25 = .ok (.aload_n 0, 1) := by decide +kernel
theorem dX0_ahead_26 : decode cX0_ahead 26 = .ok (.iload_n 2, 1) := by decide +kernel
theorem dX0_ahead_27 : decode cX0_ahead 27 = .ok (.invokevirtual 81, 3) := by decide +kernel
theorem dX0_ahead_30 : decode cX0_ahead 30 = .ok (.aload_n 0, 1) := by decide +kernel
theorem dX0_ahead_31 : decode cX0_ahead 31 = .ok (.iload_n 1, 1) := by decide +kernel
theorem dX0_ahead_32 : decode cX0_ahead 32 = .ok (.iload_n 2, 1) := by decide +kernel
theorem dX0_ahead_33 : decode cX0_ahead 33 = .ok (.invokevirtual 85, 3) := by decide +kernel
theorem dX0_ahead_36 : decode cX0_ahead 36 = .ok (.ifCond .eq 7, 3) := by decide +kernel
theorem dX0_ahead_39 : decode cX0_ahead 39 = .ok (.iconst 1, 1) := by decide +kernel
theorem dX0_ahead_40 : decode cX0_ahead 40 = .ok (.goto 4, 3) := by decide +kernel
theorem dX0_ahead_43 : decode cX0_ahead 43 = .ok (.iconst 0, 1) := by decide +kernel
theorem dX0_ahead_44 : decode cX0_ahead 44 = .ok (.ireturn, 1) := by decide +kernel
set_option maxRecDepth 20000 in
theorem ggX0_place_X0_isJumper : GoodIn wsX0_place wsX0_isJumper := goodIn_r _ [6, 1, 51, 52, 53, 54, 55, 56, 57, 58] (by decide +kernel) (by decide +kernel)
set_option maxRecDepth 20000 in
theorem gX0_place_X0_isJumper : GoodIn wsX0_place (wsV RX0 39 RX0 yX0_isJumper wsX0_isJumper) := goodIn_app (goodIn_of _ (by decide +kernel)) ggX0_place_X0_isJumper
set_option maxRecDepth 20000 in
theorem ggX0_place_X0_bestOf : GoodIn wsX0_place wsX0_bestOf := goodIn_r _ [10, 11, 12, 13, 14, 15, 16, 17, 18, 5, 19, 20, 21, 22, 23, 24, 25, 26, 27, 28, 29, 30, 31, 32, 33, 51, 52, 53, 54, 55, 56, 57, 58] (by decide +kernel) (by decide +kernel)
set_option maxRecDepth 20000 in
theorem gX0_place_X0_bestOf : GoodIn wsX0_place (wsV RX0 77 RX0 yX0_bestOf wsX0_bestOf) := goodIn_app (goodIn_of _ (by decide +kernel)) ggX0_place_X0_bestOf
set_option maxRecDepth 20000 in
theorem ggX0_place_X0_layOutAll : GoodIn wsX0_place wsX0_layOutAll := goodIn_r _ [37, 1, 38, 39, 40, 5, 41, 42, 11, 22, 23, 24, 16, 17, 18, 19, 20, 21, 25, 26, 27, 28, 29, 30, 31, 32, 33, 43, 44, 45, 46, 51, 52, 53, 54, 55, 56, 57, 58] (by decide +kernel) (by decide +kernel)
set_option maxRecDepth 20000 in
theorem gX0_place_X0_layOutAll : GoodIn wsX0_place (wsV RX0 89 RX0 yX0_layOutAll wsX0_layOutAll) := goodIn_app (goodIn_of _ (by decide +kernel)) ggX0_place_X0_layOutAll
set_option maxRecDepth 20000 in
theorem ggX0_place_X0_isAhead : GoodIn wsX0_place wsX0_isAhead := goodIn_r _ [50, 42, 22, 23, 5, 24, 51, 52, 53, 54, 55, 56, 57, 58] (by decide +kernel) (by decide +kernel)
set_option maxRecDepth 20000 in
theorem gX0_place_X0_isAhead : GoodIn wsX0_place (wsV RX0 85 RX0 yX0_isAhead wsX0_isAhead) := goodIn_app (goodIn_of _ (by decide +kernel)) ggX0_place_X0_isAhead
theorem dX0_place_0 : decode cX0_place 0 = .ok (.aload_n 0, 1) := by decide +kernel
theorem dX0_place_1 : decode cX0_place 1 = .ok (.iload_n 1, 1) := by decide +kernel
theorem dX0_place_2 : decode cX0_place 2 = .ok (.invokevirtual 39, 3) := by decide +kernel
theorem dX0_place_5 : decode cX0_place 5 = .ok (.ifCond .ne 7, 3) := by decide +kernel
theorem dX0_place_8 : decode cX0_place 8 = .ok (.sipush (-1000), 3) := by decide +kernel
theorem dX0_place_11 : decode cX0_place 11 = .ok (.ireturn, 1) := by decide +kernel
theorem dX0_place_12 : decode cX0_place 12 = .ok (.aload_n 0, 1) := by decide +kernel
theorem dX0_place_13 : decode cX0_place 13 = .ok (.iload_n 1, 1) := by decide +kernel
theorem dX0_place_14 : decode cX0_place 14 = .ok (.invokevirtual 77, 3) := by decide +kernel
theorem dX0_place_17 : decode cX0_place 17 = .ok (.ifCond .ne 5, 3) := by decide +kernel
theorem dX0_place_20 : decode cX0_place 20 = .ok (.iconst 0, 1) := by decide +kernel
theorem dX0_place_21 : decode cX0_place 21 = .ok (.ireturn, 1) := by decide +kernel
theorem dX0_place_22 : decode cX0_place 22 = .ok (.aload_n 0, 1) := by decide +kernel
theorem dX0_place_23 : decode cX0_place 23 = .ok (.invokevirtual 89, 3) := by decide +kernel
theorem dX0_place_26 : decode cX0_place 26 = .ok (.iconst 0, 1) := by decide +kernel
theorem dX0_place_27 : decode cX0_place 27 = .ok (.istore_n 2, 1) := by decide +kernel
theorem dX0_place_28 : decode cX0_place 28 = .ok (.iconst 0, 1) := by decide +kernel
theorem dX0_place_29 : decode cX0_place 29 = .ok (.istore_n 3, 1) := by decide +kernel
theorem dX0_place_30 : decode cX0_place 30 = .ok (.iload_n 3, 1) := by decide +kernel
theorem dX0_place_31 : decode cX0_place 31 = .ok (.aload_n 0, 1) := by decide +kernel
theorem dX0_place_32 : decode cX0_place 32 = .ok (.getfield 7, 3) := by decide +kernel
theorem dX0_place_35 : decode cX0_place 35 = .ok (.if_icmp .ge 21, 3) := by decide +kernel
theorem dX0_place_38 : decode cX0_place 38 = .ok (.aload_n 0, 1) := by decide +kernel
theorem dX0_place_39 : decode cX0_place 39 = .ok (.iload_n 3, 1) := by decide +kernel
theorem dX0_place_40 : decode cX0_place 40 = .ok (.iload_n 1, 1) := by decide +kernel
theorem dX0_place_41 : decode cX0_place 41 = .ok (.invokevirtual 85, 3) := by decide +kernel
theorem dX0_place_44 : decode cX0_place 44 = .ok (.ifCond .eq 6, 3) := by decide +kernel
theorem dX0_place_47 : decode cX0_place 47 = .ok (.iinc 2 1, 3) := by decide +kernel
theorem dX0_place_50 : decode cX0_place 50 = .ok (.iinc 3 1, 3) := by decide +kernel
theorem dX0_place_53 : decode cX0_place 53 = .ok (.goto (-23), 3) := by decide +kernel
theorem dX0_place_56 : decode cX0_place 56 = .ok (.iload_n 2, 1) := by decide +kernel
theorem dX0_place_57 : decode cX0_place 57 = .ok (.iconst 1, 1) := by decide +kernel
theorem dX0_place_58 : decode cX0_place 58 = .ok (.iadd, 1) := by decide +kernel
theorem dX0_place_59 : decode cX0_place 59 = .ok (.ireturn, 1) := by decide +kernel
set_option maxRecDepth 20000 in
theorem ggX0_order_X0_layOutAll : GoodIn wsX0_order wsX0_layOutAll := goodIn_r _ [6, 1, 7, 8, 9, 5, 10, 11, 12, 13, 14, 15, 16, 17, 18, 19, 20, 21, 22, 23, 24, 25, 26, 27, 28, 29, 30, 31, 32, 33, 34, 47, 48, 49, 50, 51, 52, 53, 54] (by decide +kernel) (by decide +kernel)
set_option maxRecDepth 20000 in
theorem gX0_order_X0_layOutAll : GoodIn wsX0_order (wsV RX0 89 RX0 yX0_layOutAll wsX0_layOutAll) := goodIn_app (goodIn_of _ (by decide +kernel)) ggX0_order_X0_layOutAll
set_option maxRecDepth 20000 in
theorem ggX0_order_X0_howManyJumpBefore : GoodIn wsX0_order wsX0_howManyJumpBefore := goodIn_r _ [38, 1, 39, 40, 41, 5, 42, 43, 44, 45, 46, 11, 13, 14, 15, 47, 48, 49, 50, 51, 52, 53, 54] (by decide +kernel) (by decide +kernel)
set_option maxRecDepth 20000 in
theorem gX0_order_X0_howManyJumpBefore : GoodIn wsX0_order (wsV RX0 92 RX0 yX0_howManyJumpBefore wsX0_howManyJumpBefore) := goodIn_app (goodIn_of _ (by decide +kernel)) ggX0_order_X0_howManyJumpBefore
theorem dX0_order_0 : decode cX0_order 0 = .ok (.iload_n 1, 1) := by decide +kernel
theorem dX0_order_1 : decode cX0_order 1 = .ok (.ifCond .lt 11, 3) := by decide +kernel
theorem dX0_order_4 : decode cX0_order 4 = .ok (.iload_n 1, 1) := by decide +kernel
theorem dX0_order_5 : decode cX0_order 5 = .ok (.aload_n 0, 1) := by decide +kernel
theorem dX0_order_6 : decode cX0_order 6 = .ok (.getfield 7, 3) := by decide +kernel
theorem dX0_order_9 : decode cX0_order 9 = .ok (.if_icmp .lt 7, 3) := by decide +kernel
theorem dX0_order_12 : decode cX0_order 12 = .ok (.sipush (-1000), 3) := by decide +kernel
theorem dX0_order_15 : decode cX0_order 15 = .ok (.ireturn, 1) := by decide +kernel
theorem dX0_order_16 : decode cX0_order 16 = .ok (.aload_n 0, 1) := by decide +kernel
theorem dX0_order_17 : decode cX0_order 17 = .ok (.invokevirtual 89, 3) := by decide +kernel
theorem dX0_order_20 : decode cX0_order 20 = .ok (.iconst 0, 1) := by decide +kernel
theorem dX0_order_21 : decode cX0_order 21 = .ok (.istore_n 2, 1) := by decide +kernel
theorem dX0_order_22 : decode cX0_order 22 = .ok (.iconst 0, 1) := by decide +kernel
theorem dX0_order_23 : decode cX0_order 23 = .ok (.istore_n 3, 1) := by decide +kernel
theorem dX0_order_24 : decode cX0_order 24 = .ok (.iload_n 3, 1) := by decide +kernel
theorem dX0_order_25 : decode cX0_order 25 = .ok (.aload_n 0, 1) := by decide +kernel
theorem dX0_order_26 : decode cX0_order 26 = .ok (.getfield 7, 3) := by decide +kernel
theorem dX0_order_29 : decode cX0_order 29 = .ok (.if_icmp .ge 20, 3) := by decide +kernel
theorem dX0_order_32 : decode cX0_order 32 = .ok (.aload_n 0, 1) := by decide +kernel
theorem dX0_order_33 : decode cX0_order 33 = .ok (.iload_n 3, 1) := by decide +kernel
theorem dX0_order_34 : decode cX0_order 34 = .ok (.invokevirtual 92, 3) := by decide +kernel
theorem dX0_order_37 : decode cX0_order 37 = .ok (.iload_n 1, 1) := by decide +kernel
theorem dX0_order_38 : decode cX0_order 38 = .ok (.if_icmp .ne 5, 3) := by decide +kernel
theorem dX0_order_41 : decode cX0_order 41 = .ok (.iload_n 3, 1) := by decide +kernel
theorem dX0_order_42 : decode cX0_order 42 = .ok (.istore_n 2, 1) := by decide +kernel
theorem dX0_order_43 : decode cX0_order 43 = .ok (.iinc 3 1, 3) := by decide +kernel
theorem dX0_order_46 : decode cX0_order 46 = .ok (.goto (-22), 3) := by decide +kernel
theorem dX0_order_49 : decode cX0_order 49 = .ok (.iload_n 2, 1) := by decide +kernel
theorem dX0_order_50 : decode cX0_order 50 = .ok (.ireturn, 1) := by decide +kernel
set_option maxRecDepth 20000 in
theorem ggX0_verdict_X0_isJumper : GoodIn wsX0_verdict wsX0_isJumper := goodIn_r _ [9, 10, 34, 35, 36, 37, 38, 39, 40, 41] (by decide +kernel) (by decide +kernel)
set_option maxRecDepth 20000 in
theorem gX0_verdict_X0_isJumper : GoodIn wsX0_verdict (wsV RX0 39 RX0 yX0_isJumper wsX0_isJumper) := goodIn_app (goodIn_of _ (by decide +kernel)) ggX0_verdict_X0_isJumper
set_option maxRecDepth 20000 in
theorem ggX0_verdict_X0_isRound : GoodIn wsX0_verdict wsX0_isRound := goodIn_r _ [13] (by decide +kernel) (by decide +kernel)
set_option maxRecDepth 20000 in
theorem gX0_verdict_X0_isRound : GoodIn wsX0_verdict (va_wsS RX0 55 yX0_isRound wsX0_isRound) := goodIn_app (goodIn_of _ (by decide +kernel)) ggX0_verdict_X0_isRound
set_option maxRecDepth 20000 in
theorem ggX0_verdict_X0_at : GoodIn wsX0_verdict wsX0_at := goodIn_r _ [16] (by decide +kernel) (by decide +kernel)
set_option maxRecDepth 20000 in
theorem gX0_verdict_X0_at : GoodIn wsX0_verdict (va_wsS RX0 48 yX0_at wsX0_at) := goodIn_app (goodIn_of _ (by decide +kernel)) ggX0_verdict_X0_at
set_option maxRecDepth 20000 in
theorem ggX0_verdict_X0_isLegal : GoodIn wsX0_verdict wsX0_isLegal := goodIn_r _ [20, 1, 2, 4, 14, 15, 8, 16, 21, 22, 23, 24, 25, 26, 27, 28, 29, 34, 35, 36, 37, 38, 39, 40, 41] (by decide +kernel) (by decide +kernel)
set_option maxRecDepth 20000 in
theorem gX0_verdict_X0_isLegal : GoodIn wsX0_verdict (wsV RX0 95 RX0 yX0_isLegal wsX0_isLegal) := goodIn_app (goodIn_of _ (by decide +kernel)) ggX0_verdict_X0_isLegal
set_option maxRecDepth 20000 in
theorem ggX0_verdict_X0_valueFits : GoodIn wsX0_verdict wsX0_valueFits := goodIn_r _ [23, 24, 25, 8, 26, 27, 28, 29] (by decide +kernel) (by decide +kernel)
set_option maxRecDepth 20000 in
theorem gX0_verdict_X0_valueFits : GoodIn wsX0_verdict (va_wsS RX0 65 yX0_valueFits wsX0_valueFits) := goodIn_app (goodIn_of _ (by decide +kernel)) ggX0_verdict_X0_valueFits
set_option maxRecDepth 20000 in
theorem ggX0_verdict_X0_beatsEarlierRounds : GoodIn wsX0_verdict wsX0_beatsEarlierRounds := goodIn_r _ [33, 1, 14, 15, 8, 16, 21, 22, 23, 24, 25, 26, 27, 28, 29, 34, 35, 36, 37, 38, 39, 40, 41] (by decide +kernel) (by decide +kernel)
set_option maxRecDepth 20000 in
theorem gX0_verdict_X0_beatsEarlierRounds : GoodIn wsX0_verdict (wsV RX0 98 RX0 yX0_beatsEarlierRounds wsX0_beatsEarlierRounds) := goodIn_app (goodIn_of _ (by decide +kernel)) ggX0_verdict_X0_beatsEarlierRounds
theorem dX0_verdict_0 : decode cX0_verdict 0 = .ok (.aload_n 0, 1) := by decide +kernel
theorem dX0_verdict_1 : decode cX0_verdict 1 = .ok (.iload_n 1, 1) := by decide +kernel
theorem dX0_verdict_2 : decode cX0_verdict 2 = .ok (.invokevirtual 39, 3) := by decide +kernel
theorem dX0_verdict_5 : decode cX0_verdict 5 = .ok (.ifCond .eq 10, 3) := by decide +kernel
theorem dX0_verdict_8 : decode cX0_verdict 8 = .ok (.iload_n 2, 1) := by decide +kernel
theorem dX0_verdict_9 : decode cX0_verdict 9 = .ok (.invokestatic 55, 3) := by decide +kernel
theorem dX0_verdict_12 : decode cX0_verdict 12 = .ok (.ifCond .ne 7, 3) := by decide +kernel
theorem dX0_verdict_15 : decode cX0_verdict 15 = .ok (.sipush (-1000), 3) := by decide +kernel
theorem dX0_verdict_18 : decode cX0_verdict 18 = .ok (.ireturn, 1) := by decide +kernel
theorem dX0_verdict_19 : decode cX0_verdict 19 = .ok (.aload_n 0, 1) := by decide +kernel
theorem dX0_verdict_20 : decode cX0_verdict 20 = .ok (.getfield 26, 3) := by decide +kernel
theorem dX0_verdict_23 : decode cX0_verdict 23 = .ok (.iload_n 1, 1) := by decide +kernel
theorem dX0_verdict_24 : decode cX0_verdict 24 = .ok (.iload_n 2, 1) := by decide +kernel
theorem dX0_verdict_25 : decode cX0_verdict 25 = .ok (.invokestatic 48, 3) := by decide +kernel
theorem dX0_verdict_28 : decode cX0_verdict 28 = .ok (.iaload, 1) := by decide +kernel
theorem dX0_verdict_29 : decode cX0_verdict 29 = .ok (.istore_n 3, 1) := by decide +kernel
theorem dX0_verdict_30 : decode cX0_verdict 30 = .ok (.aload_n 0, 1) := by decide +kernel
theorem dX0_verdict_31 : decode cX0_verdict 31 = .ok (.getfield 29, 3) := by decide +kernel
theorem dX0_verdict_34 : decode cX0_verdict 34 = .ok (.iload_n 1, 1) := by decide +kernel
theorem dX0_verdict_35 : decode cX0_verdict 35 = .ok (.iload_n 2, 1) := by decide +kernel
theorem dX0_verdict_36 : decode cX0_verdict 36 = .ok (.invokestatic 48, 3) := by decide +kernel
theorem dX0_verdict_39 : decode cX0_verdict 39 = .ok (.iaload, 1) := by decide +kernel
theorem dX0_verdict_40 : decode cX0_verdict 40 = .ok (.istore 4, 2) := by decide +kernel
theorem dX0_verdict_42 : decode cX0_verdict 42 = .ok (.iconst 0, 1) := by decide +kernel
theorem dX0_verdict_43 : decode cX0_verdict 43 = .ok (.istore 5, 2) := by decide +kernel
theorem dX0_verdict_45 : decode cX0_verdict 45 = .ok (.iload 5, 2) := by decide +kernel
theorem dX0_verdict_47 : decode cX0_verdict 47 = .ok (.iload_n 3, 1) := by decide +kernel
theorem dX0_verdict_48 : decode cX0_verdict 48 = .ok (.ifCond .eq 7, 3) := by decide +kernel
theorem dX0_verdict_51 : decode cX0_verdict 51 = .ok (.iconst 1, 1) := by decide +kernel
theorem dX0_verdict_52 : decode cX0_verdict 52 = .ok (.goto 4, 3) := by decide +kernel
theorem dX0_verdict_55 : decode cX0_verdict 55 = .ok (.iconst 0, 1) := by decide +kernel
theorem dX0_verdict_56 : decode cX0_verdict 56 = .ok (.iadd, 1) := by decide +kernel
theorem dX0_verdict_57 : decode cX0_verdict 57 = .ok (.istore 5, 2) := by decide +kernel
theorem dX0_verdict_59 : decode cX0_verdict 59 = .ok (.iload 5, 2) := by decide +kernel
theorem dX0_verdict_61 : decode cX0_verdict 61 = .ok (.iload 4, 2) := by decide +kernel
theorem dX0_verdict_63 : decode cX0_verdict 63 = .ok (.bipush 100, 2) := by decide +kernel
theorem dX0_verdict_65 : decode cX0_verdict 65 = .ok (.if_icmp .eq 7, 3) := by decide +kernel
theorem dX0_verdict_68 : decode cX0_verdict 68 = .ok (.iconst 2, 1) := by decide +kernel
theorem dX0_verdict_69 : decode cX0_verdict 69 = .ok (.goto 4, 3) := by decide +kernel
theorem dX0_verdict_72 : decode cX0_verdict 72 = .ok (.iconst 0, 1) := by decide +kernel
theorem dX0_verdict_73 : decode cX0_verdict 73 = .ok (.iadd, 1) := by decide +kernel
theorem dX0_verdict_74 : decode cX0_verdict 74 = .ok (.istore 5, 2) := by decide +kernel
theorem dX0_verdict_76 : decode cX0_verdict 76 = .ok (.iload 5, 2) := by decide +kernel
theorem dX0_verdict_78 : decode cX0_verdict 78 = .ok (.aload_n 0, 1) := by decide +kernel
theorem dX0_verdict_79 : decode cX0_verdict 79 = .ok (.iload_n 1, 1) := by decide +kernel
theorem dX0_verdict_80 : decode cX0_verdict 80 = .ok (.iload_n 2, 1) := by decide +kernel
theorem dX0_verdict_81 : decode cX0_verdict 81 = .ok (.invokevirtual 95, 3) := by decide +kernel
theorem dX0_verdict_84 : decode cX0_verdict 84 = .ok (.ifCond .eq 7, 3) := by decide +kernel
theorem dX0_verdict_87 : decode cX0_verdict 87 = .ok (.iconst 4, 1) := by decide +kernel
theorem dX0_verdict_88 : decode cX0_verdict 88 = .ok (.goto 4, 3) := by decide +kernel
theorem dX0_verdict_91 : decode cX0_verdict 91 = .ok (.iconst 0, 1) := by decide +kernel
theorem dX0_verdict_92 : decode cX0_verdict 92 = .ok (.iadd, 1) := by decide +kernel
theorem dX0_verdict_93 : decode cX0_verdict 93 = .ok (.istore 5, 2) := by decide +kernel
theorem dX0_verdict_95 : decode cX0_verdict 95 = .ok (.iload 5, 2) := by decide +kernel
theorem dX0_verdict_97 : decode cX0_verdict 97 = .ok (.iconst 3, 1) := by decide +kernel
theorem dX0_verdict_98 : decode cX0_verdict 98 = .ok (.iconst 0, 1) := by decide +kernel
theorem dX0_verdict_99 : decode cX0_verdict 99 = .ok (.iload_n 3, 1) := by decide +kernel
theorem dX0_verdict_100 : decode cX0_verdict 100 = .ok (.aload_n 0, 1) := by decide +kernel
theorem dX0_verdict_101 : decode cX0_verdict 101 = .ok (.getfield 13, 3) := by decide +kernel
theorem dX0_verdict_104 : decode cX0_verdict 104 = .ok (.invokestatic 65, 3) := by decide +kernel
theorem dX0_verdict_107 : decode cX0_verdict 107 = .ok (.ifCond .eq 8, 3) := by decide +kernel
theorem dX0_verdict_110 : decode cX0_verdict 110 = .ok (.bipush 8, 2) := by decide +kernel
theorem dX0_verdict_112 : decode cX0_verdict 112 = .ok (.goto 4, 3) := by decide +kernel
theorem dX0_verdict_115 : decode cX0_verdict 115 = .ok (.iconst 0, 1) := by decide +kernel
theorem dX0_verdict_116 : decode cX0_verdict 116 = .ok (.iadd, 1) := by decide +kernel
theorem dX0_verdict_117 : decode cX0_verdict 117 = .ok (.istore 5, 2) := by decide +kernel
theorem dX0_verdict_119 : decode cX0_verdict 119 = .ok (.iload 5, 2) := by decide +kernel
theorem dX0_verdict_121 : decode cX0_verdict 121 = .ok (.iconst 2, 1) := by decide +kernel
theorem dX0_verdict_122 : decode cX0_verdict 122 = .ok (.iconst 0, 1) := by decide +kernel
theorem dX0_verdict_123 : decode cX0_verdict 123 = .ok (.iload_n 3, 1) := by decide +kernel
theorem dX0_verdict_124 : decode cX0_verdict 124 = .ok (.aload_n 0, 1) := by decide +kernel
theorem dX0_verdict_125 : decode cX0_verdict 125 = .ok (.getfield 13, 3) := by decide +kernel
theorem dX0_verdict_128 : decode cX0_verdict 128 = .ok (.invokestatic 65, 3) := by decide +kernel
theorem dX0_verdict_131 : decode cX0_verdict 131 = .ok (.ifCond .eq 8, 3) := by decide +kernel
theorem dX0_verdict_134 : decode cX0_verdict 134 = .ok (.bipush 16, 2) := by decide +kernel
theorem dX0_verdict_136 : decode cX0_verdict 136 = .ok (.goto 4, 3) := by decide +kernel
theorem dX0_verdict_139 : decode cX0_verdict 139 = .ok (.iconst 0, 1) := by decide +kernel
theorem dX0_verdict_140 : decode cX0_verdict 140 = .ok (.iadd, 1) := by decide +kernel
theorem dX0_verdict_141 : decode cX0_verdict 141 = .ok (.istore 5, 2) := by decide +kernel
theorem dX0_verdict_143 : decode cX0_verdict 143 = .ok (.iload 5, 2) := by decide +kernel
theorem dX0_verdict_145 : decode cX0_verdict 145 = .ok (.iconst 4, 1) := by decide +kernel
theorem dX0_verdict_146 : decode cX0_verdict 146 = .ok (.iconst 0, 1) := by decide +kernel
theorem dX0_verdict_147 : decode cX0_verdict 147 = .ok (.iload_n 3, 1) := by decide +kernel
theorem dX0_verdict_148 : decode cX0_verdict 148 = .ok (.aload_n 0, 1) := by decide +kernel
theorem dX0_verdict_149 : decode cX0_verdict 149 = .ok (.getfield 13, 3) := by decide +kernel
theorem dX0_verdict_152 : decode cX0_verdict 152 = .ok (.invokestatic 65, 3) := by decide +kernel
theorem dX0_verdict_155 : decode cX0_verdict 155 = .ok (.ifCond .eq 8, 3) := by decide +kernel
theorem dX0_verdict_158 : decode cX0_verdict 158 = .ok (.bipush 32, 2) := by decide +kernel
theorem dX0_verdict_160 : decode cX0_verdict 160 = .ok (.goto 4, 3) := by decide +kernel
theorem dX0_verdict_163 : decode cX0_verdict 163 = .ok (.iconst 0, 1) := by decide +kernel
theorem dX0_verdict_164 : decode cX0_verdict 164 = .ok (.iadd, 1) := by decide +kernel
theorem dX0_verdict_165 : decode cX0_verdict 165 = .ok (.istore 5, 2) := by decide +kernel
theorem dX0_verdict_167 : decode cX0_verdict 167 = .ok (.iload 5, 2) := by decide +kernel
theorem dX0_verdict_169 : decode cX0_verdict 169 = .ok (.iconst 1, 1) := by decide +kernel
theorem dX0_verdict_170 : decode cX0_verdict 170 = .ok (.iconst 1, 1) := by decide +kernel
theorem dX0_verdict_171 : decode cX0_verdict 171 = .ok (.iload 4, 2) := by decide +kernel
theorem dX0_verdict_173 : decode cX0_verdict 173 = .ok (.aload_n 0, 1) := by decide +kernel
theorem dX0_verdict_174 : decode cX0_verdict 174 = .ok (.getfield 16, 3) := by decide +kernel
theorem dX0_verdict_177 : decode cX0_verdict 177 = .ok (.invokestatic 65, 3) := by decide +kernel
theorem dX0_verdict_180 : decode cX0_verdict 180 = .ok (.ifCond .eq 8, 3) := by decide +kernel
theorem dX0_verdict_183 : decode cX0_verdict 183 = .ok (.bipush 64, 2) := by decide +kernel
theorem dX0_verdict_185 : decode cX0_verdict 185 = .ok (.goto 4, 3) := by decide +kernel
theorem dX0_verdict_188 : decode cX0_verdict 188 = .ok (.iconst 0, 1) := by decide +kernel
theorem dX0_verdict_189 : decode cX0_verdict 189 = .ok (.iadd, 1) := by decide +kernel
theorem dX0_verdict_190 : decode cX0_verdict 190 = .ok (.istore 5, 2) := by decide +kernel
theorem dX0_verdict_192 : decode cX0_verdict 192 = .ok (.iload 5, 2) := by decide +kernel
theorem dX0_verdict_194 : decode cX0_verdict 194 = .ok (.aload_n 0, 1) := by decide +kernel
theorem dX0_verdict_195 : decode cX0_verdict 195 = .ok (.iload_n 1, 1) := by decide +kernel
theorem dX0_verdict_196 : decode cX0_verdict 196 = .ok (.iload_n 2, 1) := by decide +kernel
theorem dX0_verdict_197 : decode cX0_verdict 197 = .ok (.invokevirtual 98, 3) := by decide +kernel
theorem dX0_verdict_200 : decode cX0_verdict 200 = .ok (.ifCond .eq 9, 3) := by decide +kernel
theorem dX0_verdict_203 : decode cX0_verdict 203 = .ok (.sipush 128, 3) := by decide +kernel
theorem dX0_verdict_206 : decode cX0_verdict 206 = .ok (.goto 4, 3) := by decide +kernel
theorem dX0_verdict_209 : decode cX0_verdict 209 = .ok (.iconst 0, 1) := by decide +kernel
theorem dX0_verdict_210 : decode cX0_verdict 210 = .ok (.iadd, 1) := by decide +kernel
theorem dX0_verdict_211 : decode cX0_verdict 211 = .ok (.istore 5, 2) := by decide +kernel
theorem dX0_verdict_213 : decode cX0_verdict 213 = .ok (.iload 5, 2) := by decide +kernel
theorem dX0_verdict_215 : decode cX0_verdict 215 = .ok (.ireturn, 1) := by decide +kernel
set_option maxRecDepth 20000 in
theorem ggX0_told_X0_howManyJumped : GoodIn wsX0_told wsX0_howManyJumped := goodIn_r _ [8, 1, 9, 36, 37, 38, 39, 40, 41, 42, 43] (by decide +kernel) (by decide +kernel)
set_option maxRecDepth 20000 in
theorem gX0_told_X0_howManyJumped : GoodIn wsX0_told (wsV RX0 101 RX0 yX0_howManyJumped wsX0_howManyJumped) := goodIn_app (goodIn_of _ (by decide +kernel)) ggX0_told_X0_howManyJumped
set_option maxRecDepth 20000 in
theorem ggX0_told_X0_howManyMarked : GoodIn wsX0_told wsX0_howManyMarked := goodIn_r _ [13, 14, 36, 37, 38, 39, 40, 41, 42, 43] (by decide +kernel) (by decide +kernel)
set_option maxRecDepth 20000 in
theorem gX0_told_X0_howManyMarked : GoodIn wsX0_told (wsV RX0 105 RX0 yX0_howManyMarked wsX0_howManyMarked) := goodIn_app (goodIn_of _ (by decide +kernel)) ggX0_told_X0_howManyMarked
set_option maxRecDepth 20000 in
theorem ggX0_told_X0_howManyLegal : GoodIn wsX0_told wsX0_howManyLegal := goodIn_r _ [18, 1, 19, 20, 21, 7, 22, 14, 23, 3, 24, 25, 26, 27, 28, 29, 30, 31, 32, 33, 34, 35, 36, 37, 38, 39, 40, 41, 42, 43] (by decide +kernel) (by decide +kernel)
set_option maxRecDepth 20000 in
theorem gX0_told_X0_howManyLegal : GoodIn wsX0_told (wsV RX0 108 RX0 yX0_howManyLegal wsX0_howManyLegal) := goodIn_app (goodIn_of _ (by decide +kernel)) ggX0_told_X0_howManyLegal
theorem dX0_told_0 : decode cX0_told 0 = .ok (.iload_n 1, 1) := by decide +kernel
theorem dX0_told_1 : decode cX0_told 1 = .ok (.tableswitch 74 0 5 #[39, 44, 49, 59, 64, 69], 39) := by decide +kernel
theorem dX0_told_40 : decode cX0_told 40 = .ok (.aload_n 0, 1) := by decide +kernel
theorem dX0_told_41 : decode cX0_told 41 = .ok (.getfield 7, 3) := by decide +kernel
theorem dX0_told_44 : decode cX0_told 44 = .ok (.ireturn, 1) := by decide +kernel
theorem dX0_told_45 : decode cX0_told 45 = .ok (.aload_n 0, 1) := by decide +kernel
theorem dX0_told_46 : decode cX0_told 46 = .ok (.invokevirtual 101, 3) := by decide +kernel
theorem dX0_told_49 : decode cX0_told 49 = .ok (.ireturn, 1) := by decide +kernel
theorem dX0_told_50 : decode cX0_told 50 = .ok (.aload_n 0, 1) := by decide +kernel
theorem dX0_told_51 : decode cX0_told 51 = .ok (.invokevirtual 101, 3) := by decide +kernel
theorem dX0_told_54 : decode cX0_told 54 = .ok (.aload_n 0, 1) := by decide +kernel
theorem dX0_told_55 : decode cX0_told 55 = .ok (.invokevirtual 105, 3) := by decide +kernel
theorem dX0_told_58 : decode cX0_told 58 = .ok (.isub, 1) := by decide +kernel
theorem dX0_told_59 : decode cX0_told 59 = .ok (.ireturn, 1) := by decide +kernel
theorem dX0_told_60 : decode cX0_told 60 = .ok (.aload_n 0, 1) := by decide +kernel
theorem dX0_told_61 : decode cX0_told 61 = .ok (.invokevirtual 108, 3) := by decide +kernel
theorem dX0_told_64 : decode cX0_told 64 = .ok (.ireturn, 1) := by decide +kernel
theorem dX0_told_65 : decode cX0_told 65 = .ok (.aload_n 0, 1) := by decide +kernel
theorem dX0_told_66 : decode cX0_told 66 = .ok (.getfield 13, 3) := by decide +kernel
theorem dX0_told_69 : decode cX0_told 69 = .ok (.ireturn, 1) := by decide +kernel
theorem dX0_told_70 : decode cX0_told 70 = .ok (.aload_n 0, 1) := by decide +kernel
theorem dX0_told_71 : decode cX0_told 71 = .ok (.getfield 16, 3) := by decide +kernel
theorem dX0_told_74 : decode cX0_told 74 = .ok (.ireturn, 1) := by decide +kernel
theorem dX0_told_75 : decode cX0_told 75 = .ok (.sipush (-1000), 3) := by decide +kernel
theorem dX0_told_78 : decode cX0_told 78 = .ok (.ireturn, 1) := by decide +kernel
theorem dX0_isJumper_0 : decode cX0_isJumper 0 = .ok (.iload_n 1, 1) := by decide +kernel
theorem dX0_isJumper_1 : decode cX0_isJumper 1 = .ok (.ifCond .lt 15, 3) := by decide +kernel
theorem dX0_isJumper_4 : decode cX0_isJumper 4 = .ok (.iload_n 1, 1) := by decide +kernel
theorem dX0_isJumper_5 : decode cX0_isJumper 5 = .ok (.aload_n 0, 1) := by decide +kernel
theorem dX0_isJumper_6 : decode cX0_isJumper 6 = .ok (.getfield 7, 3) := by decide +kernel
theorem dX0_isJumper_9 : decode cX0_isJumper 9 = .ok (.if_icmp .ge 7, 3) := by decide +kernel
theorem dX0_isJumper_12 : decode cX0_isJumper 12 = .ok (.iconst 1, 1) := by decide +kernel
theorem dX0_isJumper_13 : decode cX0_isJumper 13 = .ok (.goto 4, 3) := by decide +kernel
theorem dX0_isJumper_16 : decode cX0_isJumper 16 = .ok (.iconst 0, 1) := by decide +kernel
theorem dX0_isJumper_17 : decode cX0_isJumper 17 = .ok (.ireturn, 1) := by decide +kernel
theorem dX0_isRound_0 : decode cX0_isRound 0 = .ok (.iload_n 0, 1) := by decide +kernel
theorem dX0_isRound_1 : decode cX0_isRound 1 = .ok (.ifCond .lt 13, 3) := by decide +kernel
theorem dX0_isRound_4 : decode cX0_isRound 4 = .ok (.iload_n 0, 1) := by decide +kernel
theorem dX0_isRound_5 : decode cX0_isRound 5 = .ok (.bipush 6, 2) := by decide +kernel
theorem dX0_isRound_7 : decode cX0_isRound 7 = .ok (.if_icmp .ge 7, 3) := by decide +kernel
theorem dX0_isRound_10 : decode cX0_isRound 10 = .ok (.iconst 1, 1) := by decide +kernel
theorem dX0_isRound_11 : decode cX0_isRound 11 = .ok (.goto 4, 3) := by decide +kernel
theorem dX0_isRound_14 : decode cX0_isRound 14 = .ok (.iconst 0, 1) := by decide +kernel
theorem dX0_isRound_15 : decode cX0_isRound 15 = .ok (.ireturn, 1) := by decide +kernel
theorem dX0_isWhat_0 : decode cX0_isWhat 0 = .ok (.iload_n 0, 1) := by decide +kernel
theorem dX0_isWhat_1 : decode cX0_isWhat 1 = .ok (.ifCond .eq 8, 3) := by decide +kernel
theorem dX0_isWhat_4 : decode cX0_isWhat 4 = .ok (.iload_n 0, 1) := by decide +kernel
theorem dX0_isWhat_5 : decode cX0_isWhat 5 = .ok (.iconst 1, 1) := by decide +kernel
theorem dX0_isWhat_6 : decode cX0_isWhat 6 = .ok (.if_icmp .ne 7, 3) := by decide +kernel
theorem dX0_isWhat_9 : decode cX0_isWhat 9 = .ok (.iconst 1, 1) := by decide +kernel
theorem dX0_isWhat_10 : decode cX0_isWhat 10 = .ok (.goto 4, 3) := by decide +kernel
theorem dX0_isWhat_13 : decode cX0_isWhat 13 = .ok (.iconst 0, 1) := by decide +kernel
theorem dX0_isWhat_14 : decode cX0_isWhat 14 = .ok (.ireturn, 1) := by decide +kernel
theorem dX0_isHow_0 : decode cX0_isHow 0 = .ok (.iload_n 0, 1) := by decide +kernel
theorem dX0_isHow_1 : decode cX0_isHow 1 = .ok (.ifCond .lt 12, 3) := by decide +kernel
theorem dX0_isHow_4 : decode cX0_isHow 4 = .ok (.iload_n 0, 1) := by decide +kernel
theorem dX0_isHow_5 : decode cX0_isHow 5 = .ok (.iconst 5, 1) := by decide +kernel
theorem dX0_isHow_6 : decode cX0_isHow 6 = .ok (.if_icmp .gt 7, 3) := by decide +kernel
theorem dX0_isHow_9 : decode cX0_isHow 9 = .ok (.iconst 1, 1) := by decide +kernel
theorem dX0_isHow_10 : decode cX0_isHow 10 = .ok (.goto 4, 3) := by decide +kernel
theorem dX0_isHow_13 : decode cX0_isHow 13 = .ok (.iconst 0, 1) := by decide +kernel
theorem dX0_isHow_14 : decode cX0_isHow 14 = .ok (.ireturn, 1) := by decide +kernel
theorem dX0_isMark_0 : decode cX0_isMark 0 = .ok (.iload_n 0, 1) := by decide +kernel
theorem dX0_isMark_1 : decode cX0_isMark 1 = .ok (.ifCond .lt 14, 3) := by decide +kernel
theorem dX0_isMark_4 : decode cX0_isMark 4 = .ok (.iload_n 0, 1) := by decide +kernel
theorem dX0_isMark_5 : decode cX0_isMark 5 = .ok (.sipush 1200, 3) := by decide +kernel
theorem dX0_isMark_8 : decode cX0_isMark 8 = .ok (.if_icmp .gt 7, 3) := by decide +kernel
theorem dX0_isMark_11 : decode cX0_isMark 11 = .ok (.iconst 1, 1) := by decide +kernel
theorem dX0_isMark_12 : decode cX0_isMark 12 = .ok (.goto 4, 3) := by decide +kernel
theorem dX0_isMark_15 : decode cX0_isMark 15 = .ok (.iconst 0, 1) := by decide +kernel
theorem dX0_isMark_16 : decode cX0_isMark 16 = .ok (.ireturn, 1) := by decide +kernel
theorem dX0_isWind_0 : decode cX0_isWind 0 = .ok (.iload_n 0, 1) := by decide +kernel
theorem dX0_isWind_1 : decode cX0_isWind 1 = .ok (.bipush (-99), 2) := by decide +kernel
theorem dX0_isWind_3 : decode cX0_isWind 3 = .ok (.if_icmp .lt 13, 3) := by decide +kernel
theorem dX0_isWind_6 : decode cX0_isWind 6 = .ok (.iload_n 0, 1) := by decide +kernel
theorem dX0_isWind_7 : decode cX0_isWind 7 = .ok (.bipush 100, 2) := by decide +kernel
theorem dX0_isWind_9 : decode cX0_isWind 9 = .ok (.if_icmp .gt 7, 3) := by decide +kernel
theorem dX0_isWind_12 : decode cX0_isWind 12 = .ok (.iconst 1, 1) := by decide +kernel
theorem dX0_isWind_13 : decode cX0_isWind 13 = .ok (.goto 4, 3) := by decide +kernel
theorem dX0_isWind_16 : decode cX0_isWind 16 = .ok (.iconst 0, 1) := by decide +kernel
theorem dX0_isWind_17 : decode cX0_isWind 17 = .ok (.ireturn, 1) := by decide +kernel
set_option maxRecDepth 20000 in
theorem ggX0_isQuestion_X0_isHow : GoodIn wsX0_isQuestion wsX0_isHow := goodIn_r _ [4] (by decide +kernel) (by decide +kernel)
set_option maxRecDepth 20000 in
theorem gX0_isQuestion_X0_isHow : GoodIn wsX0_isQuestion (va_wsS RX0 62 yX0_isHow wsX0_isHow) := goodIn_app (goodIn_of _ (by decide +kernel)) ggX0_isQuestion_X0_isHow
set_option maxRecDepth 20000 in
theorem ggX0_isQuestion_X0_isWhat : GoodIn wsX0_isQuestion wsX0_isWhat := goodIn_r _ [7] (by decide +kernel) (by decide +kernel)
set_option maxRecDepth 20000 in
theorem gX0_isQuestion_X0_isWhat : GoodIn wsX0_isQuestion (va_wsS RX0 52 yX0_isWhat wsX0_isWhat) := goodIn_app (goodIn_of _ (by decide +kernel)) ggX0_isQuestion_X0_isWhat
set_option maxRecDepth 20000 in
theorem ggX0_isQuestion_X0_isJumper : GoodIn wsX0_isQuestion wsX0_isJumper := goodIn_r _ [11, 12, 19, 20, 21, 22, 23, 24, 25, 26] (by decide +kernel) (by decide +kernel)
set_option maxRecDepth 20000 in
theorem gX0_isQuestion_X0_isJumper : GoodIn wsX0_isQuestion (wsV RX0 39 RX0 yX0_isJumper wsX0_isJumper) := goodIn_app (goodIn_of _ (by decide +kernel)) ggX0_isQuestion_X0_isJumper
set_option maxRecDepth 20000 in
theorem ggX0_isQuestion_X0_isMark : GoodIn wsX0_isQuestion wsX0_isMark := goodIn_r _ [15] (by decide +kernel) (by decide +kernel)
set_option maxRecDepth 20000 in
theorem gX0_isQuestion_X0_isMark : GoodIn wsX0_isQuestion (va_wsS RX0 42 yX0_isMark wsX0_isMark) := goodIn_app (goodIn_of _ (by decide +kernel)) ggX0_isQuestion_X0_isMark
set_option maxRecDepth 20000 in
theorem ggX0_isQuestion_X0_isWind : GoodIn wsX0_isQuestion wsX0_isWind := goodIn_r _ [18] (by decide +kernel) (by decide +kernel)
set_option maxRecDepth 20000 in
theorem gX0_isQuestion_X0_isWind : GoodIn wsX0_isQuestion (va_wsS RX0 45 yX0_isWind wsX0_isWind) := goodIn_app (goodIn_of _ (by decide +kernel)) ggX0_isQuestion_X0_isWind
theorem dX0_isQuestion_0 : decode cX0_isQuestion 0 = .ok (.iload_n 1, 1) := by decide +kernel
theorem dX0_isQuestion_1 : decode cX0_isQuestion 1 = .ok (.invokestatic 62, 3) := by decide +kernel
theorem dX0_isQuestion_4 : decode cX0_isQuestion 4 = .ok (.ifCond .eq 45, 3) := by decide +kernel
theorem dX0_isQuestion_7 : decode cX0_isQuestion 7 = .ok (.iload_n 2, 1) := by decide +kernel
theorem dX0_isQuestion_8 : decode cX0_isQuestion 8 = .ok (.invokestatic 52, 3) := by decide +kernel
theorem dX0_isQuestion_11 : decode cX0_isQuestion 11 = .ok (.ifCond .eq 38, 3) := by decide +kernel
theorem dX0_isQuestion_14 : decode cX0_isQuestion 14 = .ok (.aload_n 0, 1) := by decide +kernel
theorem dX0_isQuestion_15 : decode cX0_isQuestion 15 = .ok (.iload_n 3, 1) := by decide +kernel
theorem dX0_isQuestion_16 : decode cX0_isQuestion 16 = .ok (.invokevirtual 39, 3) := by decide +kernel
theorem dX0_isQuestion_19 : decode cX0_isQuestion 19 = .ok (.ifCond .eq 30, 3) := by decide +kernel
theorem dX0_isQuestion_22 : decode cX0_isQuestion 22 = .ok (.iload_n 2, 1) := by decide +kernel
theorem dX0_isQuestion_23 : decode cX0_isQuestion 23 = .ok (.ifCond .ne 14, 3) := by decide +kernel
theorem dX0_isQuestion_26 : decode cX0_isQuestion 26 = .ok (.iload 4, 2) := by decide +kernel
theorem dX0_isQuestion_28 : decode cX0_isQuestion 28 = .ok (.invokestatic 42, 3) := by decide +kernel
theorem dX0_isQuestion_31 : decode cX0_isQuestion 31 = .ok (.ifCond .eq 18, 3) := by decide +kernel
theorem dX0_isQuestion_34 : decode cX0_isQuestion 34 = .ok (.goto 11, 3) := by decide +kernel
theorem dX0_isQuestion_37 : decode cX0_isQuestion 37 = .ok (.iload 4, 2) := by decide +kernel
theorem dX0_isQuestion_39 : decode cX0_isQuestion 39 = .ok (.invokestatic 45, 3) := by decide +kernel
theorem dX0_isQuestion_42 : decode cX0_isQuestion 42 = .ok (.ifCond .eq 7, 3) := by decide +kernel
theorem dX0_isQuestion_45 : decode cX0_isQuestion 45 = .ok (.iconst 1, 1) := by decide +kernel
theorem dX0_isQuestion_46 : decode cX0_isQuestion 46 = .ok (.goto 4, 3) := by decide +kernel
theorem dX0_isQuestion_49 : decode cX0_isQuestion 49 = .ok (.iconst 0, 1) := by decide +kernel
theorem dX0_isQuestion_50 : decode cX0_isQuestion 50 = .ok (.ireturn, 1) := by decide +kernel
theorem dX0_isBibTaken_0 : decode cX0_isBibTaken 0 = .ok (.iconst 0, 1) := by decide +kernel
theorem dX0_isBibTaken_1 : decode cX0_isBibTaken 1 = .ok (.istore_n 2, 1) := by decide +kernel
theorem dX0_isBibTaken_2 : decode cX0_isBibTaken 2 = .ok (.iload_n 2, 1) := by decide +kernel
theorem dX0_isBibTaken_3 : decode cX0_isBibTaken 3 = .ok (.aload_n 0, 1) := by decide +kernel
theorem dX0_isBibTaken_4 : decode cX0_isBibTaken 4 = .ok (.getfield 7, 3) := by decide +kernel
theorem dX0_isBibTaken_7 : decode cX0_isBibTaken 7 = .ok (.if_icmp .ge 21, 3) := by decide +kernel
theorem dX0_isBibTaken_10 : decode cX0_isBibTaken 10 = .ok (.aload_n 0, 1) := by decide +kernel
theorem dX0_isBibTaken_11 : decode cX0_isBibTaken 11 = .ok (.getfield 19, 3) := by decide +kernel
theorem dX0_isBibTaken_14 : decode cX0_isBibTaken 14 = .ok (.iload_n 2, 1) := by decide +kernel
theorem dX0_isBibTaken_15 : decode cX0_isBibTaken 15 = .ok (.iaload, 1) := by decide +kernel
theorem dX0_isBibTaken_16 : decode cX0_isBibTaken 16 = .ok (.iload_n 1, 1) := by decide +kernel
theorem dX0_isBibTaken_17 : decode cX0_isBibTaken 17 = .ok (.if_icmp .ne 5, 3) := by decide +kernel
theorem dX0_isBibTaken_20 : decode cX0_isBibTaken 20 = .ok (.iconst 1, 1) := by decide +kernel
theorem dX0_isBibTaken_21 : decode cX0_isBibTaken 21 = .ok (.ireturn, 1) := by decide +kernel
theorem dX0_isBibTaken_22 : decode cX0_isBibTaken 22 = .ok (.iinc 2 1, 3) := by decide +kernel
theorem dX0_isBibTaken_25 : decode cX0_isBibTaken 25 = .ok (.goto (-23), 3) := by decide +kernel
theorem dX0_isBibTaken_28 : decode cX0_isBibTaken 28 = .ok (.iconst 0, 1) := by decide +kernel
theorem dX0_isBibTaken_29 : decode cX0_isBibTaken 29 = .ok (.ireturn, 1) := by decide +kernel
theorem dX0_at_0 : decode cX0_at 0 = .ok (.iload_n 0, 1) := by decide +kernel
theorem dX0_at_1 : decode cX0_at 1 = .ok (.bipush 6, 2) := by decide +kernel
theorem dX0_at_3 : decode cX0_at 3 = .ok (.imul, 1) := by decide +kernel
theorem dX0_at_4 : decode cX0_at 4 = .ok (.iload_n 1, 1) := by decide +kernel
theorem dX0_at_5 : decode cX0_at 5 = .ok (.iadd, 1) := by decide +kernel
theorem dX0_at_6 : decode cX0_at 6 = .ok (.ireturn, 1) := by decide +kernel
set_option maxRecDepth 20000 in
theorem ggX0_valueOf_X0_at : GoodIn wsX0_valueOf wsX0_at := goodIn_r _ [6] (by decide +kernel) (by decide +kernel)
set_option maxRecDepth 20000 in
theorem gX0_valueOf_X0_at : GoodIn wsX0_valueOf (va_wsS RX0 48 yX0_at wsX0_at) := goodIn_app (goodIn_of _ (by decide +kernel)) ggX0_valueOf_X0_at
theorem dX0_valueOf_0 : decode cX0_valueOf 0 = .ok (.iload_n 1, 1) := by decide +kernel
theorem dX0_valueOf_1 : decode cX0_valueOf 1 = .ok (.ifCond .ne 16, 3) := by decide +kernel
theorem dX0_valueOf_4 : decode cX0_valueOf 4 = .ok (.aload_n 0, 1) := by decide +kernel
theorem dX0_valueOf_5 : decode cX0_valueOf 5 = .ok (.getfield 26, 3) := by decide +kernel
theorem dX0_valueOf_8 : decode cX0_valueOf 8 = .ok (.iload_n 2, 1) := by decide +kernel
theorem dX0_valueOf_9 : decode cX0_valueOf 9 = .ok (.iload_n 3, 1) := by decide +kernel
theorem dX0_valueOf_10 : decode cX0_valueOf 10 = .ok (.invokestatic 48, 3) := by decide +kernel
theorem dX0_valueOf_13 : decode cX0_valueOf 13 = .ok (.iaload, 1) := by decide +kernel
theorem dX0_valueOf_14 : decode cX0_valueOf 14 = .ok (.goto 13, 3) := by decide +kernel
theorem dX0_valueOf_17 : decode cX0_valueOf 17 = .ok (.aload_n 0, 1) := by decide +kernel
theorem dX0_valueOf_18 : decode cX0_valueOf 18 = .ok (.getfield 29, 3) := by decide +kernel
theorem dX0_valueOf_21 : decode cX0_valueOf 21 = .ok (.iload_n 2, 1) := by decide +kernel
theorem dX0_valueOf_22 : decode cX0_valueOf 22 = .ok (.iload_n 3, 1) := by decide +kernel
theorem dX0_valueOf_23 : decode cX0_valueOf 23 = .ok (.invokestatic 48, 3) := by decide +kernel
theorem dX0_valueOf_26 : decode cX0_valueOf 26 = .ok (.iaload, 1) := by decide +kernel
theorem dX0_valueOf_27 : decode cX0_valueOf 27 = .ok (.ireturn, 1) := by decide +kernel
theorem dX0_isNone_0 : decode cX0_isNone 0 = .ok (.iload_n 1, 1) := by decide +kernel
theorem dX0_isNone_1 : decode cX0_isNone 1 = .ok (.iload_n 0, 1) := by decide +kernel
theorem dX0_isNone_2 : decode cX0_isNone 2 = .ok (.ifCond .ne 7, 3) := by decide +kernel
theorem dX0_isNone_5 : decode cX0_isNone 5 = .ok (.iconst 0, 1) := by decide +kernel
theorem dX0_isNone_6 : decode cX0_isNone 6 = .ok (.goto 5, 3) := by decide +kernel
theorem dX0_isNone_9 : decode cX0_isNone 9 = .ok (.bipush 100, 2) := by decide +kernel
theorem dX0_isNone_11 : decode cX0_isNone 11 = .ok (.if_icmp .ne 7, 3) := by decide +kernel
theorem dX0_isNone_14 : decode cX0_isNone 14 = .ok (.iconst 1, 1) := by decide +kernel
theorem dX0_isNone_15 : decode cX0_isNone 15 = .ok (.goto 4, 3) := by decide +kernel
theorem dX0_isNone_18 : decode cX0_isNone 18 = .ok (.iconst 0, 1) := by decide +kernel
theorem dX0_isNone_19 : decode cX0_isNone 19 = .ok (.ireturn, 1) := by decide +kernel
set_option maxRecDepth 20000 in
theorem ggX0_valueFits_X0_isNone : GoodIn wsX0_valueFits wsX0_isNone := goodIn_r _ [4] (by decide +kernel) (by decide +kernel)
set_option maxRecDepth 20000 in
theorem gX0_valueFits_X0_isNone : GoodIn wsX0_valueFits (va_wsS RX0 111 yX0_isNone wsX0_isNone) := goodIn_app (goodIn_of _ (by decide +kernel)) ggX0_valueFits_X0_isNone
set_option maxRecDepth 20000 in
theorem ggX0_valueFits_X0_numberFits : GoodIn wsX0_valueFits wsX0_numberFits := goodIn_r _ [7] (by decide +kernel) (by decide +kernel)
set_option maxRecDepth 20000 in
theorem gX0_valueFits_X0_numberFits : GoodIn wsX0_valueFits (va_wsS RX0 114 yX0_numberFits wsX0_numberFits) := goodIn_app (goodIn_of _ (by decide +kernel)) ggX0_valueFits_X0_numberFits
theorem dX0_valueFits_0 : decode cX0_valueFits 0 = .ok (.iload_n 1, 1) := by decide +kernel
theorem dX0_valueFits_1 : decode cX0_valueFits 1 = .ok (.iload_n 2, 1) := by decide +kernel
theorem dX0_valueFits_2 : decode cX0_valueFits 2 = .ok (.invokestatic 111, 3) := by decide +kernel
theorem dX0_valueFits_5 : decode cX0_valueFits 5 = .ok (.ifCond .ne 11, 3) := by decide +kernel
theorem dX0_valueFits_8 : decode cX0_valueFits 8 = .ok (.iload_n 1, 1) := by decide +kernel
theorem dX0_valueFits_9 : decode cX0_valueFits 9 = .ok (.iload_n 3, 1) := by decide +kernel
theorem dX0_valueFits_10 : decode cX0_valueFits 10 = .ok (.invokestatic 111, 3) := by decide +kernel
theorem dX0_valueFits_13 : decode cX0_valueFits 13 = .ok (.ifCond .eq 14, 3) := by decide +kernel
theorem dX0_valueFits_16 : decode cX0_valueFits 16 = .ok (.iload_n 0, 1) := by decide +kernel
theorem dX0_valueFits_17 : decode cX0_valueFits 17 = .ok (.iconst 5, 1) := by decide +kernel
theorem dX0_valueFits_18 : decode cX0_valueFits 18 = .ok (.if_icmp .ne 7, 3) := by decide +kernel
theorem dX0_valueFits_21 : decode cX0_valueFits 21 = .ok (.iconst 1, 1) := by decide +kernel
theorem dX0_valueFits_22 : decode cX0_valueFits 22 = .ok (.goto 4, 3) := by decide +kernel
theorem dX0_valueFits_25 : decode cX0_valueFits 25 = .ok (.iconst 0, 1) := by decide +kernel
theorem dX0_valueFits_26 : decode cX0_valueFits 26 = .ok (.ireturn, 1) := by decide +kernel
theorem dX0_valueFits_27 : decode cX0_valueFits 27 = .ok (.iload_n 0, 1) := by decide +kernel
theorem dX0_valueFits_28 : decode cX0_valueFits 28 = .ok (.iload_n 2, 1) := by decide +kernel
theorem dX0_valueFits_29 : decode cX0_valueFits 29 = .ok (.iload_n 3, 1) := by decide +kernel
theorem dX0_valueFits_30 : decode cX0_valueFits 30 = .ok (.invokestatic 114, 3) := by decide +kernel
theorem dX0_valueFits_33 : decode cX0_valueFits 33 = .ok (.ireturn, 1) := by decide +kernel
theorem dX0_numberFits_0 : decode cX0_numberFits 0 = .ok (.iload_n 0, 1) := by decide +kernel
theorem dX0_numberFits_1 : decode cX0_numberFits 1 = .ok (.tableswitch 90 0 4 #[35, 46, 57, 68, 79], 35) := by decide +kernel
theorem dX0_numberFits_36 : decode cX0_numberFits 36 = .ok (.iload_n 1, 1) := by decide +kernel
theorem dX0_numberFits_37 : decode cX0_numberFits 37 = .ok (.iload_n 2, 1) := by decide +kernel
theorem dX0_numberFits_38 : decode cX0_numberFits 38 = .ok (.if_icmp .ge 7, 3) := by decide +kernel
theorem dX0_numberFits_41 : decode cX0_numberFits 41 = .ok (.iconst 1, 1) := by decide +kernel
theorem dX0_numberFits_42 : decode cX0_numberFits 42 = .ok (.goto 4, 3) := by decide +kernel
theorem dX0_numberFits_45 : decode cX0_numberFits 45 = .ok (.iconst 0, 1) := by decide +kernel
theorem dX0_numberFits_46 : decode cX0_numberFits 46 = .ok (.ireturn, 1) := by decide +kernel
theorem dX0_numberFits_47 : decode cX0_numberFits 47 = .ok (.iload_n 1, 1) := by decide +kernel
theorem dX0_numberFits_48 : decode cX0_numberFits 48 = .ok (.iload_n 2, 1) := by decide +kernel
theorem dX0_numberFits_49 : decode cX0_numberFits 49 = .ok (.if_icmp .gt 7, 3) := by decide +kernel
theorem dX0_numberFits_52 : decode cX0_numberFits 52 = .ok (.iconst 1, 1) := by decide +kernel
theorem dX0_numberFits_53 : decode cX0_numberFits 53 = .ok (.goto 4, 3) := by decide +kernel
theorem dX0_numberFits_56 : decode cX0_numberFits 56 = .ok (.iconst 0, 1) := by decide +kernel
theorem dX0_numberFits_57 : decode cX0_numberFits 57 = .ok (.ireturn, 1) := by decide +kernel
theorem dX0_numberFits_58 : decode cX0_numberFits 58 = .ok (.iload_n 1, 1) := by decide +kernel
theorem dX0_numberFits_59 : decode cX0_numberFits 59 = .ok (.iload_n 2, 1) := by decide +kernel
theorem dX0_numberFits_60 : decode cX0_numberFits 60 = .ok (.if_icmp .le 7, 3) := by decide +kernel
theorem dX0_numberFits_63 : decode cX0_numberFits 63 = .ok (.iconst 1, 1) := by decide +kernel
theorem dX0_numberFits_64 : decode cX0_numberFits 64 = .ok (.goto 4, 3) := by decide +kernel
theorem dX0_numberFits_67 : decode cX0_numberFits 67 = .ok (.iconst 0, 1) := by decide +kernel
theorem dX0_numberFits_68 : decode cX0_numberFits 68 = .ok (.ireturn, 1) := by decide +kernel
theorem dX0_numberFits_69 : decode cX0_numberFits 69 = .ok (.iload_n 1, 1) := by decide +kernel
theorem dX0_numberFits_70 : decode cX0_numberFits 70 = .ok (.iload_n 2, 1) := by decide +kernel
theorem dX0_numberFits_71 : decode cX0_numberFits 71 = .ok (.if_icmp .lt 7, 3) := by decide +kernel
theorem dX0_numberFits_74 : decode cX0_numberFits 74 = .ok (.iconst 1, 1) := by decide +kernel
theorem dX0_numberFits_75 : decode cX0_numberFits 75 = .ok (.goto 4, 3) := by decide +kernel
theorem dX0_numberFits_78 : decode cX0_numberFits 78 = .ok (.iconst 0, 1) := by decide +kernel
theorem dX0_numberFits_79 : decode cX0_numberFits 79 = .ok (.ireturn, 1) := by decide +kernel
theorem dX0_numberFits_80 : decode cX0_numberFits 80 = .ok (.iload_n 1, 1) := by decide +kernel
theorem dX0_numberFits_81 : decode cX0_numberFits 81 = .ok (.iload_n 2, 1) := by decide +kernel
theorem dX0_numberFits_82 : decode cX0_numberFits 82 = .ok (.if_icmp .ne 7, 3) := by decide +kernel
theorem dX0_numberFits_85 : decode cX0_numberFits 85 = .ok (.iconst 1, 1) := by decide +kernel
theorem dX0_numberFits_86 : decode cX0_numberFits 86 = .ok (.goto 4, 3) := by decide +kernel
theorem dX0_numberFits_89 : decode cX0_numberFits 89 = .ok (.iconst 0, 1) := by decide +kernel
theorem dX0_numberFits_90 : decode cX0_numberFits 90 = .ok (.ireturn, 1) := by decide +kernel
theorem dX0_numberFits_91 : decode cX0_numberFits 91 = .ok (.iload_n 1, 1) := by decide +kernel
theorem dX0_numberFits_92 : decode cX0_numberFits 92 = .ok (.iload_n 2, 1) := by decide +kernel
theorem dX0_numberFits_93 : decode cX0_numberFits 93 = .ok (.if_icmp .eq 7, 3) := by decide +kernel
theorem dX0_numberFits_96 : decode cX0_numberFits 96 = .ok (.iconst 1, 1) := by decide +kernel
theorem dX0_numberFits_97 : decode cX0_numberFits 97 = .ok (.goto 4, 3) := by decide +kernel
theorem dX0_numberFits_100 : decode cX0_numberFits 100 = .ok (.iconst 0, 1) := by decide +kernel
theorem dX0_numberFits_101 : decode cX0_numberFits 101 = .ok (.ireturn, 1) := by decide +kernel
set_option maxRecDepth 20000 in
theorem ggX0_isLegal_X0_at : GoodIn wsX0_isLegal wsX0_at := goodIn_r _ [7] (by decide +kernel) (by decide +kernel)
set_option maxRecDepth 20000 in
theorem gX0_isLegal_X0_at : GoodIn wsX0_isLegal (va_wsS RX0 48 yX0_at wsX0_at) := goodIn_app (goodIn_of _ (by decide +kernel)) ggX0_isLegal_X0_at
set_option maxRecDepth 20000 in
theorem ggX0_isLegal_X0_valueFits : GoodIn wsX0_isLegal wsX0_valueFits := goodIn_r _ [10, 11, 12, 6, 13, 14, 15, 16] (by decide +kernel) (by decide +kernel)
set_option maxRecDepth 20000 in
theorem gX0_isLegal_X0_valueFits : GoodIn wsX0_isLegal (va_wsS RX0 65 yX0_valueFits wsX0_valueFits) := goodIn_app (goodIn_of _ (by decide +kernel)) ggX0_isLegal_X0_valueFits
theorem dX0_isLegal_0 : decode cX0_isLegal 0 = .ok (.aload_n 0, 1) := by decide +kernel
theorem dX0_isLegal_1 : decode cX0_isLegal 1 = .ok (.getfield 26, 3) := by decide +kernel
theorem dX0_isLegal_4 : decode cX0_isLegal 4 = .ok (.iload_n 1, 1) := by decide +kernel
theorem dX0_isLegal_5 : decode cX0_isLegal 5 = .ok (.iload_n 2, 1) := by decide +kernel
theorem dX0_isLegal_6 : decode cX0_isLegal 6 = .ok (.invokestatic 48, 3) := by decide +kernel
theorem dX0_isLegal_9 : decode cX0_isLegal 9 = .ok (.iaload, 1) := by decide +kernel
theorem dX0_isLegal_10 : decode cX0_isLegal 10 = .ok (.ifCond .eq 29, 3) := by decide +kernel
theorem dX0_isLegal_13 : decode cX0_isLegal 13 = .ok (.iconst 2, 1) := by decide +kernel
theorem dX0_isLegal_14 : decode cX0_isLegal 14 = .ok (.iconst 1, 1) := by decide +kernel
theorem dX0_isLegal_15 : decode cX0_isLegal 15 = .ok (.aload_n 0, 1) := by decide +kernel
theorem dX0_isLegal_16 : decode cX0_isLegal 16 = .ok (.getfield 29, 3) := by decide +kernel
theorem dX0_isLegal_19 : decode cX0_isLegal 19 = .ok (.iload_n 1, 1) := by decide +kernel
theorem dX0_isLegal_20 : decode cX0_isLegal 20 = .ok (.iload_n 2, 1) := by decide +kernel
theorem dX0_isLegal_21 : decode cX0_isLegal 21 = .ok (.invokestatic 48, 3) := by decide +kernel
theorem dX0_isLegal_24 : decode cX0_isLegal 24 = .ok (.iaload, 1) := by decide +kernel
theorem dX0_isLegal_25 : decode cX0_isLegal 25 = .ok (.aload_n 0, 1) := by decide +kernel
theorem dX0_isLegal_26 : decode cX0_isLegal 26 = .ok (.getfield 16, 3) := by decide +kernel
theorem dX0_isLegal_29 : decode cX0_isLegal 29 = .ok (.invokestatic 65, 3) := by decide +kernel
theorem dX0_isLegal_32 : decode cX0_isLegal 32 = .ok (.ifCond .ne 7, 3) := by decide +kernel
theorem dX0_isLegal_35 : decode cX0_isLegal 35 = .ok (.iconst 1, 1) := by decide +kernel
theorem dX0_isLegal_36 : decode cX0_isLegal 36 = .ok (.goto 4, 3) := by decide +kernel
theorem dX0_isLegal_39 : decode cX0_isLegal 39 = .ok (.iconst 0, 1) := by decide +kernel
theorem dX0_isLegal_40 : decode cX0_isLegal 40 = .ok (.ireturn, 1) := by decide +kernel
set_option maxRecDepth 20000 in
theorem ggX0_bestOf_X0_isLegal : GoodIn wsX0_bestOf wsX0_isLegal := goodIn_r _ [10, 1, 11, 12, 13, 14, 9, 15, 16, 17, 18, 19, 20, 21, 22, 23, 24, 25, 26, 27, 28, 29, 30, 31, 32] (by decide +kernel) (by decide +kernel)
set_option maxRecDepth 20000 in
theorem gX0_bestOf_X0_isLegal : GoodIn wsX0_bestOf (wsV RX0 95 RX0 yX0_isLegal wsX0_isLegal) := goodIn_app (goodIn_of _ (by decide +kernel)) ggX0_bestOf_X0_isLegal
set_option maxRecDepth 20000 in
theorem ggX0_bestOf_X0_at : GoodIn wsX0_bestOf wsX0_at := goodIn_r _ [15] (by decide +kernel) (by decide +kernel)
set_option maxRecDepth 20000 in
theorem gX0_bestOf_X0_at : GoodIn wsX0_bestOf (va_wsS RX0 48 yX0_at wsX0_at) := goodIn_app (goodIn_of _ (by decide +kernel)) ggX0_bestOf_X0_at
theorem dX0_bestOf_0 : decode cX0_bestOf 0 = .ok (.iconst 0, 1) := by decide +kernel
theorem dX0_bestOf_1 : decode cX0_bestOf 1 = .ok (.istore_n 2, 1) := by decide +kernel
theorem dX0_bestOf_2 : decode cX0_bestOf 2 = .ok (.iconst 0, 1) := by decide +kernel
theorem dX0_bestOf_3 : decode cX0_bestOf 3 = .ok (.istore_n 3, 1) := by decide +kernel
theorem dX0_bestOf_4 : decode cX0_bestOf 4 = .ok (.iload_n 3, 1) := by decide +kernel
theorem dX0_bestOf_5 : decode cX0_bestOf 5 = .ok (.bipush 6, 2) := by decide +kernel
theorem dX0_bestOf_7 : decode cX0_bestOf 7 = .ok (.if_icmp .ge 33, 3) := by decide +kernel
theorem dX0_bestOf_10 : decode cX0_bestOf 10 = .ok (.aload_n 0, 1) := by decide +kernel
theorem dX0_bestOf_11 : decode cX0_bestOf 11 = .ok (.iload_n 1, 1) := by decide +kernel
theorem dX0_bestOf_12 : decode cX0_bestOf 12 = .ok (.iload_n 3, 1) := by decide +kernel
theorem dX0_bestOf_13 : decode cX0_bestOf 13 = .ok (.invokevirtual 95, 3) := by decide +kernel
theorem dX0_bestOf_16 : decode cX0_bestOf 16 = .ok (.ifCond .eq 18, 3) := by decide +kernel
theorem dX0_bestOf_19 : decode cX0_bestOf 19 = .ok (.iload_n 2, 1) := by decide +kernel
theorem dX0_bestOf_20 : decode cX0_bestOf 20 = .ok (.aload_n 0, 1) := by decide +kernel
theorem dX0_bestOf_21 : decode cX0_bestOf 21 = .ok (.getfield 26, 3) := by decide +kernel
theorem dX0_bestOf_24 : decode cX0_bestOf 24 = .ok (.iload_n 1, 1) := by decide +kernel
theorem dX0_bestOf_25 : decode cX0_bestOf 25 = .ok (.iload_n 3, 1) := by decide +kernel
theorem dX0_bestOf_26 : decode cX0_bestOf 26 = .ok (.invokestatic 48, 3) := by decide +kernel
theorem dX0_bestOf_29 : decode cX0_bestOf 29 = .ok (.iaload, 1) := by decide +kernel
theorem dX0_bestOf_30 : decode cX0_bestOf 30 = .ok (.invokestatic 72, 3) := by decide +kernel
theorem dX0_bestOf_33 : decode cX0_bestOf 33 = .ok (.istore_n 2, 1) := by decide +kernel
theorem dX0_bestOf_34 : decode cX0_bestOf 34 = .ok (.iinc 3 1, 3) := by decide +kernel
theorem dX0_bestOf_37 : decode cX0_bestOf 37 = .ok (.goto (-33), 3) := by decide +kernel
theorem dX0_bestOf_40 : decode cX0_bestOf 40 = .ok (.iload_n 2, 1) := by decide +kernel
theorem dX0_bestOf_41 : decode cX0_bestOf 41 = .ok (.ireturn, 1) := by decide +kernel
set_option maxRecDepth 20000 in
theorem ggX0_layOutAll_X0_layOut : GoodIn wsX0_layOutAll wsX0_layOut := goodIn_r _ [6, 7, 8, 9, 10, 5, 11, 12, 13, 14, 15, 16, 17, 18, 19, 20, 21, 22, 23, 24, 25, 26, 27, 28, 29, 30, 31, 32, 33, 34, 35, 36, 37, 38] (by decide +kernel) (by decide +kernel)
set_option maxRecDepth 20000 in
theorem gX0_layOutAll_X0_layOut : GoodIn wsX0_layOutAll (wsV RX0 81 RX0 yX0_layOut wsX0_layOut) := goodIn_app (goodIn_of _ (by decide +kernel)) ggX0_layOutAll_X0_layOut
theorem dX0_layOutAll_0 : decode cX0_layOutAll 0 = .ok (.iconst 0, 1) := by decide +kernel
theorem dX0_layOutAll_1 : decode cX0_layOutAll 1 = .ok (.istore_n 1, 1) := by decide +kernel
theorem dX0_layOutAll_2 : decode cX0_layOutAll 2 = .ok (.iload_n 1, 1) := by decide +kernel
theorem dX0_layOutAll_3 : decode cX0_layOutAll 3 = .ok (.aload_n 0, 1) := by decide +kernel
theorem dX0_layOutAll_4 : decode cX0_layOutAll 4 = .ok (.getfield 7, 3) := by decide +kernel
theorem dX0_layOutAll_7 : decode cX0_layOutAll 7 = .ok (.if_icmp .ge 14, 3) := by decide +kernel
theorem dX0_layOutAll_10 : decode cX0_layOutAll 10 = .ok (.aload_n 0, 1) := by decide +kernel
theorem dX0_layOutAll_11 : decode cX0_layOutAll 11 = .ok (.iload_n 1, 1) := by decide +kernel
theorem dX0_layOutAll_12 : decode cX0_layOutAll 12 = .ok (.invokevirtual 81, 3) := by decide +kernel
theorem dX0_layOutAll_15 : decode cX0_layOutAll 15 = .ok (.iinc 1 1, 3) := by decide +kernel
theorem dX0_layOutAll_18 : decode cX0_layOutAll 18 = .ok (.goto (-16), 3) := by decide +kernel
theorem dX0_layOutAll_21 : decode cX0_layOutAll 21 = .ok (.return_, 1) := by decide +kernel
set_option maxRecDepth 20000 in
theorem ggX0_layOut_X0_at : GoodIn wsX0_layOut wsX0_at := goodIn_r _ [6] (by decide +kernel) (by decide +kernel)
set_option maxRecDepth 20000 in
theorem gX0_layOut_X0_at : GoodIn wsX0_layOut (va_wsS RX0 48 yX0_at wsX0_at) := goodIn_app (goodIn_of _ (by decide +kernel)) ggX0_layOut_X0_at
set_option maxRecDepth 20000 in
theorem ggX0_layOut_X0_isLegal : GoodIn wsX0_layOut wsX0_isLegal := goodIn_r _ [10, 2, 11, 12, 3, 4, 5, 6, 13, 14, 15, 16, 17, 18, 19, 20, 21, 26, 27, 28, 29, 30, 31, 32, 33] (by decide +kernel) (by decide +kernel)
set_option maxRecDepth 20000 in
theorem gX0_layOut_X0_isLegal : GoodIn wsX0_layOut (wsV RX0 95 RX0 yX0_isLegal wsX0_isLegal) := goodIn_app (goodIn_of _ (by decide +kernel)) ggX0_layOut_X0_isLegal
set_option maxRecDepth 20000 in
theorem ggX0_layOut_X0_putInRow : GoodIn wsX0_layOut wsX0_putInRow := goodIn_r _ [25, 1, 3, 4, 5, 6, 26, 27, 28, 29, 30, 31, 32, 33] (by decide +kernel) (by decide +kernel)
set_option maxRecDepth 20000 in
theorem gX0_layOut_X0_putInRow : GoodIn wsX0_layOut (wsV RX0 118 RX0 yX0_putInRow wsX0_putInRow) := goodIn_app (goodIn_of _ (by decide +kernel)) ggX0_layOut_X0_putInRow
theorem dX0_layOut_0 : decode cX0_layOut 0 = .ok (.iconst 0, 1) := by decide +kernel
theorem dX0_layOut_1 : decode cX0_layOut 1 = .ok (.istore_n 2, 1) := by decide +kernel
theorem dX0_layOut_2 : decode cX0_layOut 2 = .ok (.iload_n 2, 1) := by decide +kernel
theorem dX0_layOut_3 : decode cX0_layOut 3 = .ok (.bipush 6, 2) := by decide +kernel
theorem dX0_layOut_5 : decode cX0_layOut 5 = .ok (.if_icmp .ge 20, 3) := by decide +kernel
theorem dX0_layOut_8 : decode cX0_layOut 8 = .ok (.aload_n 0, 1) := by decide +kernel
theorem dX0_layOut_9 : decode cX0_layOut 9 = .ok (.getfield 32, 3) := by decide +kernel
theorem dX0_layOut_12 : decode cX0_layOut 12 = .ok (.iload_n 1, 1) := by decide +kernel
theorem dX0_layOut_13 : decode cX0_layOut 13 = .ok (.iload_n 2, 1) := by decide +kernel
theorem dX0_layOut_14 : decode cX0_layOut 14 = .ok (.invokestatic 48, 3) := by decide +kernel
theorem dX0_layOut_17 : decode cX0_layOut 17 = .ok (.iconst 0, 1) := by decide +kernel
theorem dX0_layOut_18 : decode cX0_layOut 18 = .ok (.iastore, 1) := by decide +kernel
theorem dX0_layOut_19 : decode cX0_layOut 19 = .ok (.iinc 2 1, 3) := by decide +kernel
theorem dX0_layOut_22 : decode cX0_layOut 22 = .ok (.goto (-20), 3) := by decide +kernel
theorem dX0_layOut_25 : decode cX0_layOut 25 = .ok (.iconst 0, 1) := by decide +kernel
theorem dX0_layOut_26 : decode cX0_layOut 26 = .ok (.istore_n 2, 1) := by decide +kernel
theorem dX0_layOut_27 : decode cX0_layOut 27 = .ok (.iload_n 2, 1) := by decide +kernel
theorem dX0_layOut_28 : decode cX0_layOut 28 = .ok (.bipush 6, 2) := by decide +kernel
theorem dX0_layOut_30 : decode cX0_layOut 30 = .ok (.if_icmp .ge 33, 3) := by decide +kernel
theorem dX0_layOut_33 : decode cX0_layOut 33 = .ok (.aload_n 0, 1) := by decide +kernel
theorem dX0_layOut_34 : decode cX0_layOut 34 = .ok (.iload_n 1, 1) := by decide +kernel
theorem dX0_layOut_35 : decode cX0_layOut 35 = .ok (.iload_n 2, 1) := by decide +kernel
theorem dX0_layOut_36 : decode cX0_layOut 36 = .ok (.invokevirtual 95, 3) := by decide +kernel
theorem dX0_layOut_39 : decode cX0_layOut 39 = .ok (.ifCond .eq 18, 3) := by decide +kernel
theorem dX0_layOut_42 : decode cX0_layOut 42 = .ok (.aload_n 0, 1) := by decide +kernel
theorem dX0_layOut_43 : decode cX0_layOut 43 = .ok (.iload_n 1, 1) := by decide +kernel
theorem dX0_layOut_44 : decode cX0_layOut 44 = .ok (.aload_n 0, 1) := by decide +kernel
theorem dX0_layOut_45 : decode cX0_layOut 45 = .ok (.getfield 26, 3) := by decide +kernel
theorem dX0_layOut_48 : decode cX0_layOut 48 = .ok (.iload_n 1, 1) := by decide +kernel
theorem dX0_layOut_49 : decode cX0_layOut 49 = .ok (.iload_n 2, 1) := by decide +kernel
theorem dX0_layOut_50 : decode cX0_layOut 50 = .ok (.invokestatic 48, 3) := by decide +kernel
theorem dX0_layOut_53 : decode cX0_layOut 53 = .ok (.iaload, 1) := by decide +kernel
theorem dX0_layOut_54 : decode cX0_layOut 54 = .ok (.invokevirtual 118, 3) := by decide +kernel
theorem dX0_layOut_57 : decode cX0_layOut 57 = .ok (.iinc 2 1, 3) := by decide +kernel
theorem dX0_layOut_60 : decode cX0_layOut 60 = .ok (.goto (-33), 3) := by decide +kernel
theorem dX0_layOut_63 : decode cX0_layOut 63 = .ok (.return_, 1) := by decide +kernel
set_option maxRecDepth 20000 in
theorem ggX0_putInRow_X0_at : GoodIn wsX0_putInRow wsX0_at := goodIn_r _ [5] (by decide +kernel) (by decide +kernel)
set_option maxRecDepth 20000 in
theorem gX0_putInRow_X0_at : GoodIn wsX0_putInRow (va_wsS RX0 48 yX0_at wsX0_at) := goodIn_app (goodIn_of _ (by decide +kernel)) ggX0_putInRow_X0_at
theorem dX0_putInRow_0 : decode cX0_putInRow 0 = .ok (.iload_n 2, 1) := by decide +kernel
theorem dX0_putInRow_1 : decode cX0_putInRow 1 = .ok (.istore_n 3, 1) := by decide +kernel
theorem dX0_putInRow_2 : decode cX0_putInRow 2 = .ok (.iconst 0, 1) := by decide +kernel
theorem dX0_putInRow_3 : decode cX0_putInRow 3 = .ok (.istore 4, 2) := by decide +kernel
theorem dX0_putInRow_5 : decode cX0_putInRow 5 = .ok (.iload 4, 2) := by decide +kernel
theorem dX0_putInRow_7 : decode cX0_putInRow 7 = .ok (.bipush 6, 2) := by decide +kernel
theorem dX0_putInRow_9 : decode cX0_putInRow 9 = .ok (.if_icmp .ge 43, 3) := by decide +kernel
theorem dX0_putInRow_12 : decode cX0_putInRow 12 = .ok (.aload_n 0, 1) := by decide +kernel
theorem dX0_putInRow_13 : decode cX0_putInRow 13 = .ok (.getfield 32, 3) := by decide +kernel
theorem dX0_putInRow_16 : decode cX0_putInRow 16 = .ok (.iload_n 1, 1) := by decide +kernel
theorem dX0_putInRow_17 : decode cX0_putInRow 17 = .ok (.iload 4, 2) := by decide +kernel
theorem dX0_putInRow_19 : decode cX0_putInRow 19 = .ok (.invokestatic 48, 3) := by decide +kernel
theorem dX0_putInRow_22 : decode cX0_putInRow 22 = .ok (.iaload, 1) := by decide +kernel
theorem dX0_putInRow_23 : decode cX0_putInRow 23 = .ok (.istore 5, 2) := by decide +kernel
theorem dX0_putInRow_25 : decode cX0_putInRow 25 = .ok (.iload_n 3, 1) := by decide +kernel
theorem dX0_putInRow_26 : decode cX0_putInRow 26 = .ok (.iload 5, 2) := by decide +kernel
theorem dX0_putInRow_28 : decode cX0_putInRow 28 = .ok (.if_icmp .le 18, 3) := by decide +kernel
theorem dX0_putInRow_31 : decode cX0_putInRow 31 = .ok (.aload_n 0, 1) := by decide +kernel
theorem dX0_putInRow_32 : decode cX0_putInRow 32 = .ok (.getfield 32, 3) := by decide +kernel
theorem dX0_putInRow_35 : decode cX0_putInRow 35 = .ok (.iload_n 1, 1) := by decide +kernel
theorem dX0_putInRow_36 : decode cX0_putInRow 36 = .ok (.iload 4, 2) := by decide +kernel
theorem dX0_putInRow_38 : decode cX0_putInRow 38 = .ok (.invokestatic 48, 3) := by decide +kernel
theorem dX0_putInRow_41 : decode cX0_putInRow 41 = .ok (.iload_n 3, 1) := by decide +kernel
theorem dX0_putInRow_42 : decode cX0_putInRow 42 = .ok (.iastore, 1) := by decide +kernel
theorem dX0_putInRow_43 : decode cX0_putInRow 43 = .ok (.iload 5, 2) := by decide +kernel
theorem dX0_putInRow_45 : decode cX0_putInRow 45 = .ok (.istore_n 3, 1) := by decide +kernel
theorem dX0_putInRow_46 : decode cX0_putInRow 46 = .ok (.iinc 4 1, 3) := by decide +kernel
theorem dX0_putInRow_49 : decode cX0_putInRow 49 = .ok (.goto (-44), 3) := by decide +kernel
theorem dX0_putInRow_52 : decode cX0_putInRow 52 = .ok (.return_, 1) := by decide +kernel
set_option maxRecDepth 20000 in
theorem ggX0_isAhead_X0_at : GoodIn wsX0_isAhead wsX0_at := goodIn_r _ [5] (by decide +kernel) (by decide +kernel)
set_option maxRecDepth 20000 in
theorem gX0_isAhead_X0_at : GoodIn wsX0_isAhead (va_wsS RX0 48 yX0_at wsX0_at) := goodIn_app (goodIn_of _ (by decide +kernel)) ggX0_isAhead_X0_at
theorem dX0_isAhead_0 : decode cX0_isAhead 0 = .ok (.iconst 0, 1) := by decide +kernel
theorem dX0_isAhead_1 : decode cX0_isAhead 1 = .ok (.istore_n 3, 1) := by decide +kernel
theorem dX0_isAhead_2 : decode cX0_isAhead 2 = .ok (.iload_n 3, 1) := by decide +kernel
theorem dX0_isAhead_3 : decode cX0_isAhead 3 = .ok (.bipush 6, 2) := by decide +kernel
theorem dX0_isAhead_5 : decode cX0_isAhead 5 = .ok (.if_icmp .ge 53, 3) := by decide +kernel
theorem dX0_isAhead_8 : decode cX0_isAhead 8 = .ok (.aload_n 0, 1) := by decide +kernel
theorem dX0_isAhead_9 : decode cX0_isAhead 9 = .ok (.getfield 32, 3) := by decide +kernel
theorem dX0_isAhead_12 : decode cX0_isAhead 12 = .ok (.iload_n 1, 1) := by decide +kernel
theorem dX0_isAhead_13 : decode cX0_isAhead 13 = .ok (.iload_n 3, 1) := by decide +kernel
theorem dX0_isAhead_14 : decode cX0_isAhead 14 = .ok (.invokestatic 48, 3) := by decide +kernel
theorem dX0_isAhead_17 : decode cX0_isAhead 17 = .ok (.iaload, 1) := by decide +kernel
theorem dX0_isAhead_18 : decode cX0_isAhead 18 = .ok (.istore 4, 2) := by decide +kernel
theorem dX0_isAhead_20 : decode cX0_isAhead 20 = .ok (.aload_n 0, 1) := by decide +kernel
theorem dX0_isAhead_21 : decode cX0_isAhead 21 = .ok (.getfield 32, 3) := by decide +kernel
theorem dX0_isAhead_24 : decode cX0_isAhead 24 = .ok (.iload_n 2, 1) := by decide +kernel
theorem dX0_isAhead_25 : decode cX0_isAhead 25 = .ok (.iload_n 3, 1) := by decide +kernel
theorem dX0_isAhead_26 : decode cX0_isAhead 26 = .ok (.invokestatic 48, 3) := by decide +kernel
theorem dX0_isAhead_29 : decode cX0_isAhead 29 = .ok (.iaload, 1) := by decide +kernel
theorem dX0_isAhead_30 : decode cX0_isAhead 30 = .ok (.istore 5, 2) := by decide +kernel
theorem dX0_isAhead_32 : decode cX0_isAhead 32 = .ok (.iload 4, 2) := by decide +kernel
theorem dX0_isAhead_34 : decode cX0_isAhead 34 = .ok (.iload 5, 2) := by decide +kernel
theorem dX0_isAhead_36 : decode cX0_isAhead 36 = .ok (.if_icmp .eq 16, 3) := by decide +kernel
theorem dX0_isAhead_39 : decode cX0_isAhead 39 = .ok (.iload 4, 2) := by decide +kernel
theorem dX0_isAhead_41 : decode cX0_isAhead 41 = .ok (.iload 5, 2) := by decide +kernel
theorem dX0_isAhead_43 : decode cX0_isAhead 43 = .ok (.if_icmp .le 7, 3) := by decide +kernel
theorem dX0_isAhead_46 : decode cX0_isAhead 46 = .ok (.iconst 1, 1) := by decide +kernel
theorem dX0_isAhead_47 : decode cX0_isAhead 47 = .ok (.goto 4, 3) := by decide +kernel
theorem dX0_isAhead_50 : decode cX0_isAhead 50 = .ok (.iconst 0, 1) := by decide +kernel
theorem dX0_isAhead_51 : decode cX0_isAhead 51 = .ok (.ireturn, 1) := by decide +kernel
theorem dX0_isAhead_52 : decode cX0_isAhead 52 = .ok (.iinc 3 1, 3) := by decide +kernel
theorem dX0_isAhead_55 : decode cX0_isAhead 55 = .ok (.goto (-53), 3) := by decide +kernel
theorem dX0_isAhead_58 : decode cX0_isAhead 58 = .ok (.iconst 0, 1) := by decide +kernel
theorem dX0_isAhead_59 : decode cX0_isAhead 59 = .ok (.ireturn, 1) := by decide +kernel
set_option maxRecDepth 20000 in
theorem ggX0_howManyJumpBefore_X0_jumpsBefore : GoodIn wsX0_howManyJumpBefore wsX0_jumpsBefore := goodIn_r _ [6, 7, 8, 9, 5, 10, 11, 12, 13, 14, 15, 16, 17, 18, 19, 20, 21, 22] (by decide +kernel) (by decide +kernel)
set_option maxRecDepth 20000 in
theorem gX0_howManyJumpBefore_X0_jumpsBefore : GoodIn wsX0_howManyJumpBefore (wsV RX0 122 RX0 yX0_jumpsBefore wsX0_jumpsBefore) := goodIn_app (goodIn_of _ (by decide +kernel)) ggX0_howManyJumpBefore_X0_jumpsBefore
theorem dX0_howManyJumpBefore_0 : decode cX0_howManyJumpBefore 0 = .ok (.iconst 0, 1) := by decide +kernel
theorem dX0_howManyJumpBefore_1 : decode cX0_howManyJumpBefore 1 = .ok (.istore_n 2, 1) := by decide +kernel
theorem dX0_howManyJumpBefore_2 : decode cX0_howManyJumpBefore 2 = .ok (.iconst 0, 1) := by decide +kernel
theorem dX0_howManyJumpBefore_3 : decode cX0_howManyJumpBefore 3 = .ok (.istore_n 3, 1) := by decide +kernel
theorem dX0_howManyJumpBefore_4 : decode cX0_howManyJumpBefore 4 = .ok (.iload_n 3, 1) := by decide +kernel
theorem dX0_howManyJumpBefore_5 : decode cX0_howManyJumpBefore 5 = .ok (.aload_n 0, 1) := by decide +kernel
theorem dX0_howManyJumpBefore_6 : decode cX0_howManyJumpBefore 6 = .ok (.getfield 7, 3) := by decide +kernel
theorem dX0_howManyJumpBefore_9 : decode cX0_howManyJumpBefore 9 = .ok (.if_icmp .ge 21, 3) := by decide +kernel
theorem dX0_howManyJumpBefore_12 : decode cX0_howManyJumpBefore 12 = .ok (.aload_n 0, 1) := by decide +kernel
theorem dX0_howManyJumpBefore_13 : decode cX0_howManyJumpBefore 13 = .ok (.iload_n 3, 1) := by decide +kernel
theorem dX0_howManyJumpBefore_14 : decode cX0_howManyJumpBefore 14 = .ok (.iload_n 1, 1) := by decide +kernel
theorem dX0_howManyJumpBefore_15 : decode cX0_howManyJumpBefore 15 = .ok (.invokevirtual 122, 3) := by decide +kernel
theorem dX0_howManyJumpBefore_18 : decode cX0_howManyJumpBefore 18 = .ok (.ifCond .eq 6, 3) := by decide +kernel
theorem dX0_howManyJumpBefore_21 : decode cX0_howManyJumpBefore 21 = .ok (.iinc 2 1, 3) := by decide +kernel
theorem dX0_howManyJumpBefore_24 : decode cX0_howManyJumpBefore 24 = .ok (.iinc 3 1, 3) := by decide +kernel
theorem dX0_howManyJumpBefore_27 : decode cX0_howManyJumpBefore 27 = .ok (.goto (-23), 3) := by decide +kernel
theorem dX0_howManyJumpBefore_30 : decode cX0_howManyJumpBefore 30 = .ok (.iload_n 2, 1) := by decide +kernel
theorem dX0_howManyJumpBefore_31 : decode cX0_howManyJumpBefore 31 = .ok (.ireturn, 1) := by decide +kernel
set_option maxRecDepth 20000 in
theorem ggX0_jumpsBefore_X0_isAhead : GoodIn wsX0_jumpsBefore wsX0_isAhead := goodIn_r _ [5, 6, 7, 8, 4, 9, 10, 11, 12, 13, 14, 15, 16, 17] (by decide +kernel) (by decide +kernel)
set_option maxRecDepth 20000 in
theorem gX0_jumpsBefore_X0_isAhead : GoodIn wsX0_jumpsBefore (wsV RX0 85 RX0 yX0_isAhead wsX0_isAhead) := goodIn_app (goodIn_of _ (by decide +kernel)) ggX0_jumpsBefore_X0_isAhead
theorem dX0_jumpsBefore_0 : decode cX0_jumpsBefore 0 = .ok (.aload_n 0, 1) := by decide +kernel
theorem dX0_jumpsBefore_1 : decode cX0_jumpsBefore 1 = .ok (.iload_n 2, 1) := by decide +kernel
theorem dX0_jumpsBefore_2 : decode cX0_jumpsBefore 2 = .ok (.iload_n 1, 1) := by decide +kernel
theorem dX0_jumpsBefore_3 : decode cX0_jumpsBefore 3 = .ok (.invokevirtual 85, 3) := by decide +kernel
theorem dX0_jumpsBefore_6 : decode cX0_jumpsBefore 6 = .ok (.ifCond .ne 17, 3) := by decide +kernel
theorem dX0_jumpsBefore_9 : decode cX0_jumpsBefore 9 = .ok (.aload_n 0, 1) := by decide +kernel
theorem dX0_jumpsBefore_10 : decode cX0_jumpsBefore 10 = .ok (.iload_n 1, 1) := by decide +kernel
theorem dX0_jumpsBefore_11 : decode cX0_jumpsBefore 11 = .ok (.iload_n 2, 1) := by decide +kernel
theorem dX0_jumpsBefore_12 : decode cX0_jumpsBefore 12 = .ok (.invokevirtual 85, 3) := by decide +kernel
theorem dX0_jumpsBefore_15 : decode cX0_jumpsBefore 15 = .ok (.ifCond .ne 12, 3) := by decide +kernel
theorem dX0_jumpsBefore_18 : decode cX0_jumpsBefore 18 = .ok (.iload_n 1, 1) := by decide +kernel
theorem dX0_jumpsBefore_19 : decode cX0_jumpsBefore 19 = .ok (.iload_n 2, 1) := by decide +kernel
theorem dX0_jumpsBefore_20 : decode cX0_jumpsBefore 20 = .ok (.if_icmp .ge 7, 3) := by decide +kernel
theorem dX0_jumpsBefore_23 : decode cX0_jumpsBefore 23 = .ok (.iconst 1, 1) := by decide +kernel
theorem dX0_jumpsBefore_24 : decode cX0_jumpsBefore 24 = .ok (.goto 4, 3) := by decide +kernel
theorem dX0_jumpsBefore_27 : decode cX0_jumpsBefore 27 = .ok (.iconst 0, 1) := by decide +kernel
theorem dX0_jumpsBefore_28 : decode cX0_jumpsBefore 28 = .ok (.ireturn, 1) := by decide +kernel
set_option maxRecDepth 20000 in
theorem ggX0_beatsEarlierRounds_X0_at : GoodIn wsX0_beatsEarlierRounds wsX0_at := goodIn_r _ [5] (by decide +kernel) (by decide +kernel)
set_option maxRecDepth 20000 in
theorem gX0_beatsEarlierRounds_X0_at : GoodIn wsX0_beatsEarlierRounds (va_wsS RX0 48 yX0_at wsX0_at) := goodIn_app (goodIn_of _ (by decide +kernel)) ggX0_beatsEarlierRounds_X0_at
set_option maxRecDepth 20000 in
theorem ggX0_beatsEarlierRounds_X0_valueFits : GoodIn wsX0_beatsEarlierRounds wsX0_valueFits := goodIn_r _ [8, 9, 10, 4, 11, 12, 13, 14] (by decide +kernel) (by decide +kernel)
set_option maxRecDepth 20000 in
theorem gX0_beatsEarlierRounds_X0_valueFits : GoodIn wsX0_beatsEarlierRounds (va_wsS RX0 65 yX0_valueFits wsX0_valueFits) := goodIn_app (goodIn_of _ (by decide +kernel)) ggX0_beatsEarlierRounds_X0_valueFits
theorem dX0_beatsEarlierRounds_0 : decode cX0_beatsEarlierRounds 0 = .ok (.aload_n 0, 1) := by decide +kernel
theorem dX0_beatsEarlierRounds_1 : decode cX0_beatsEarlierRounds 1 = .ok (.getfield 26, 3) := by decide +kernel
theorem dX0_beatsEarlierRounds_4 : decode cX0_beatsEarlierRounds 4 = .ok (.iload_n 1, 1) := by decide +kernel
theorem dX0_beatsEarlierRounds_5 : decode cX0_beatsEarlierRounds 5 = .ok (.iload_n 2, 1) := by decide +kernel
theorem dX0_beatsEarlierRounds_6 : decode cX0_beatsEarlierRounds 6 = .ok (.invokestatic 48, 3) := by decide +kernel
theorem dX0_beatsEarlierRounds_9 : decode cX0_beatsEarlierRounds 9 = .ok (.iaload, 1) := by decide +kernel
theorem dX0_beatsEarlierRounds_10 : decode cX0_beatsEarlierRounds 10 = .ok (.istore_n 3, 1) := by decide +kernel
theorem dX0_beatsEarlierRounds_11 : decode cX0_beatsEarlierRounds 11 = .ok (.iload_n 3, 1) := by decide +kernel
theorem dX0_beatsEarlierRounds_12 : decode cX0_beatsEarlierRounds 12 = .ok (.ifCond .ne 5, 3) := by decide +kernel
theorem dX0_beatsEarlierRounds_15 : decode cX0_beatsEarlierRounds 15 = .ok (.iconst 0, 1) := by decide +kernel
theorem dX0_beatsEarlierRounds_16 : decode cX0_beatsEarlierRounds 16 = .ok (.ireturn, 1) := by decide +kernel
theorem dX0_beatsEarlierRounds_17 : decode cX0_beatsEarlierRounds 17 = .ok (.iconst 0, 1) := by decide +kernel
theorem dX0_beatsEarlierRounds_18 : decode cX0_beatsEarlierRounds 18 = .ok (.istore 4, 2) := by decide +kernel
theorem dX0_beatsEarlierRounds_20 : decode cX0_beatsEarlierRounds 20 = .ok (.iload 4, 2) := by decide +kernel
theorem dX0_beatsEarlierRounds_22 : decode cX0_beatsEarlierRounds 22 = .ok (.iload_n 2, 1) := by decide +kernel
theorem dX0_beatsEarlierRounds_23 : decode cX0_beatsEarlierRounds 23 = .ok (.if_icmp .ge 31, 3) := by decide +kernel
theorem dX0_beatsEarlierRounds_26 : decode cX0_beatsEarlierRounds 26 = .ok (.iconst 3, 1) := by decide +kernel
theorem dX0_beatsEarlierRounds_27 : decode cX0_beatsEarlierRounds 27 = .ok (.iconst 0, 1) := by decide +kernel
theorem dX0_beatsEarlierRounds_28 : decode cX0_beatsEarlierRounds 28 = .ok (.aload_n 0, 1) := by decide +kernel
theorem dX0_beatsEarlierRounds_29 : decode cX0_beatsEarlierRounds 29 = .ok (.getfield 26, 3) := by decide +kernel
theorem dX0_beatsEarlierRounds_32 : decode cX0_beatsEarlierRounds 32 = .ok (.iload_n 1, 1) := by decide +kernel
theorem dX0_beatsEarlierRounds_33 : decode cX0_beatsEarlierRounds 33 = .ok (.iload 4, 2) := by decide +kernel
theorem dX0_beatsEarlierRounds_35 : decode cX0_beatsEarlierRounds 35 = .ok (.invokestatic 48, 3) := by decide +kernel
theorem dX0_beatsEarlierRounds_38 : decode cX0_beatsEarlierRounds 38 = .ok (.iaload, 1) := by decide +kernel
theorem dX0_beatsEarlierRounds_39 : decode cX0_beatsEarlierRounds 39 = .ok (.iload_n 3, 1) := by decide +kernel
theorem dX0_beatsEarlierRounds_40 : decode cX0_beatsEarlierRounds 40 = .ok (.invokestatic 65, 3) := by decide +kernel
theorem dX0_beatsEarlierRounds_43 : decode cX0_beatsEarlierRounds 43 = .ok (.ifCond .eq 5, 3) := by decide +kernel
theorem dX0_beatsEarlierRounds_46 : decode cX0_beatsEarlierRounds 46 = .ok (.iconst 0, 1) := by decide +kernel
theorem dX0_beatsEarlierRounds_47 : decode cX0_beatsEarlierRounds 47 = .ok (.ireturn, 1) := by decide +kernel
theorem dX0_beatsEarlierRounds_48 : decode cX0_beatsEarlierRounds 48 = .ok (.iinc 4 1, 3) := by decide +kernel
theorem dX0_beatsEarlierRounds_51 : decode cX0_beatsEarlierRounds 51 = .ok (.goto (-31), 3) := by decide +kernel
theorem dX0_beatsEarlierRounds_54 : decode cX0_beatsEarlierRounds 54 = .ok (.iconst 1, 1) := by decide +kernel
theorem dX0_beatsEarlierRounds_55 : decode cX0_beatsEarlierRounds 55 = .ok (.ireturn, 1) := by decide +kernel
theorem dX0_howManyJumped_0 : decode cX0_howManyJumped 0 = .ok (.iconst 0, 1) := by decide +kernel
theorem dX0_howManyJumped_1 : decode cX0_howManyJumped 1 = .ok (.istore_n 1, 1) := by decide +kernel
theorem dX0_howManyJumped_2 : decode cX0_howManyJumped 2 = .ok (.iconst 0, 1) := by decide +kernel
theorem dX0_howManyJumped_3 : decode cX0_howManyJumped 3 = .ok (.istore_n 2, 1) := by decide +kernel
theorem dX0_howManyJumped_4 : decode cX0_howManyJumped 4 = .ok (.iload_n 2, 1) := by decide +kernel
theorem dX0_howManyJumped_5 : decode cX0_howManyJumped 5 = .ok (.aload_n 0, 1) := by decide +kernel
theorem dX0_howManyJumped_6 : decode cX0_howManyJumped 6 = .ok (.getfield 7, 3) := by decide +kernel
theorem dX0_howManyJumped_9 : decode cX0_howManyJumped 9 = .ok (.if_icmp .ge 18, 3) := by decide +kernel
theorem dX0_howManyJumped_12 : decode cX0_howManyJumped 12 = .ok (.iload_n 1, 1) := by decide +kernel
theorem dX0_howManyJumped_13 : decode cX0_howManyJumped 13 = .ok (.aload_n 0, 1) := by decide +kernel
theorem dX0_howManyJumped_14 : decode cX0_howManyJumped 14 = .ok (.getfield 23, 3) := by decide +kernel
theorem dX0_howManyJumped_17 : decode cX0_howManyJumped 17 = .ok (.iload_n 2, 1) := by decide +kernel
theorem dX0_howManyJumped_18 : decode cX0_howManyJumped 18 = .ok (.iaload, 1) := by decide +kernel
theorem dX0_howManyJumped_19 : decode cX0_howManyJumped 19 = .ok (.iadd, 1) := by decide +kernel
theorem dX0_howManyJumped_20 : decode cX0_howManyJumped 20 = .ok (.istore_n 1, 1) := by decide +kernel
theorem dX0_howManyJumped_21 : decode cX0_howManyJumped 21 = .ok (.iinc 2 1, 3) := by decide +kernel
theorem dX0_howManyJumped_24 : decode cX0_howManyJumped 24 = .ok (.goto (-20), 3) := by decide +kernel
theorem dX0_howManyJumped_27 : decode cX0_howManyJumped 27 = .ok (.iload_n 1, 1) := by decide +kernel
theorem dX0_howManyJumped_28 : decode cX0_howManyJumped 28 = .ok (.ireturn, 1) := by decide +kernel
theorem dX0_howManyMarked_0 : decode cX0_howManyMarked 0 = .ok (.iconst 0, 1) := by decide +kernel
theorem dX0_howManyMarked_1 : decode cX0_howManyMarked 1 = .ok (.istore_n 1, 1) := by decide +kernel
theorem dX0_howManyMarked_2 : decode cX0_howManyMarked 2 = .ok (.iconst 0, 1) := by decide +kernel
theorem dX0_howManyMarked_3 : decode cX0_howManyMarked 3 = .ok (.istore_n 2, 1) := by decide +kernel
theorem dX0_howManyMarked_4 : decode cX0_howManyMarked 4 = .ok (.iload_n 2, 1) := by decide +kernel
theorem dX0_howManyMarked_5 : decode cX0_howManyMarked 5 = .ok (.aload_n 0, 1) := by decide +kernel
theorem dX0_howManyMarked_6 : decode cX0_howManyMarked 6 = .ok (.getfield 26, 3) := by decide +kernel
theorem dX0_howManyMarked_9 : decode cX0_howManyMarked 9 = .ok (.arraylength, 1) := by decide +kernel
theorem dX0_howManyMarked_10 : decode cX0_howManyMarked 10 = .ok (.if_icmp .ge 21, 3) := by decide +kernel
theorem dX0_howManyMarked_13 : decode cX0_howManyMarked 13 = .ok (.aload_n 0, 1) := by decide +kernel
theorem dX0_howManyMarked_14 : decode cX0_howManyMarked 14 = .ok (.getfield 26, 3) := by decide +kernel
theorem dX0_howManyMarked_17 : decode cX0_howManyMarked 17 = .ok (.iload_n 2, 1) := by decide +kernel
theorem dX0_howManyMarked_18 : decode cX0_howManyMarked 18 = .ok (.iaload, 1) := by decide +kernel
theorem dX0_howManyMarked_19 : decode cX0_howManyMarked 19 = .ok (.ifCond .eq 6, 3) := by decide +kernel
theorem dX0_howManyMarked_22 : decode cX0_howManyMarked 22 = .ok (.iinc 1 1, 3) := by decide +kernel
theorem dX0_howManyMarked_25 : decode cX0_howManyMarked 25 = .ok (.iinc 2 1, 3) := by decide +kernel
theorem dX0_howManyMarked_28 : decode cX0_howManyMarked 28 = .ok (.goto (-24), 3) := by decide +kernel
theorem dX0_howManyMarked_31 : decode cX0_howManyMarked 31 = .ok (.iload_n 1, 1) := by decide +kernel
theorem dX0_howManyMarked_32 : decode cX0_howManyMarked 32 = .ok (.ireturn, 1) := by decide +kernel
set_option maxRecDepth 20000 in
theorem ggX0_howManyLegal_X0_isLegal : GoodIn wsX0_howManyLegal wsX0_isLegal := goodIn_r _ [6, 7, 8, 9, 10, 11, 5, 12, 13, 14, 15, 16, 17, 18, 19, 20, 21, 22, 23, 24, 25, 26, 27, 28, 29] (by decide +kernel) (by decide +kernel)
set_option maxRecDepth 20000 in
theorem gX0_howManyLegal_X0_isLegal : GoodIn wsX0_howManyLegal (wsV RX0 95 RX0 yX0_isLegal wsX0_isLegal) := goodIn_app (goodIn_of _ (by decide +kernel)) ggX0_howManyLegal_X0_isLegal
theorem dX0_howManyLegal_0 : decode cX0_howManyLegal 0 = .ok (.iconst 0, 1) := by decide +kernel
theorem dX0_howManyLegal_1 : decode cX0_howManyLegal 1 = .ok (.istore_n 1, 1) := by decide +kernel
theorem dX0_howManyLegal_2 : decode cX0_howManyLegal 2 = .ok (.iconst 0, 1) := by decide +kernel
theorem dX0_howManyLegal_3 : decode cX0_howManyLegal 3 = .ok (.istore_n 2, 1) := by decide +kernel
theorem dX0_howManyLegal_4 : decode cX0_howManyLegal 4 = .ok (.iload_n 2, 1) := by decide +kernel
theorem dX0_howManyLegal_5 : decode cX0_howManyLegal 5 = .ok (.aload_n 0, 1) := by decide +kernel
theorem dX0_howManyLegal_6 : decode cX0_howManyLegal 6 = .ok (.getfield 7, 3) := by decide +kernel
theorem dX0_howManyLegal_9 : decode cX0_howManyLegal 9 = .ok (.if_icmp .ge 35, 3) := by decide +kernel
theorem dX0_howManyLegal_12 : decode cX0_howManyLegal 12 = .ok (.iconst 0, 1) := by decide +kernel
theorem dX0_howManyLegal_13 : decode cX0_howManyLegal 13 = .ok (.istore_n 3, 1) := by decide +kernel
theorem dX0_howManyLegal_14 : decode cX0_howManyLegal 14 = .ok (.iload_n 3, 1) := by decide +kernel
theorem dX0_howManyLegal_15 : decode cX0_howManyLegal 15 = .ok (.bipush 6, 2) := by decide +kernel
theorem dX0_howManyLegal_17 : decode cX0_howManyLegal 17 = .ok (.if_icmp .ge 21, 3) := by decide +kernel
theorem dX0_howManyLegal_20 : decode cX0_howManyLegal 20 = .ok (.aload_n 0, 1) := by decide +kernel
theorem dX0_howManyLegal_21 : decode cX0_howManyLegal 21 = .ok (.iload_n 2, 1) := by decide +kernel
theorem dX0_howManyLegal_22 : decode cX0_howManyLegal 22 = .ok (.iload_n 3, 1) := by decide +kernel
theorem dX0_howManyLegal_23 : decode cX0_howManyLegal 23 = .ok (.invokevirtual 95, 3) := by decide +kernel
theorem dX0_howManyLegal_26 : decode cX0_howManyLegal 26 = .ok (.ifCond .eq 6, 3) := by decide +kernel
theorem dX0_howManyLegal_29 : decode cX0_howManyLegal 29 = .ok (.iinc 1 1, 3) := by decide +kernel
theorem dX0_howManyLegal_32 : decode cX0_howManyLegal 32 = .ok (.iinc 3 1, 3) := by decide +kernel
theorem dX0_howManyLegal_35 : decode cX0_howManyLegal 35 = .ok (.goto (-21), 3) := by decide +kernel
theorem dX0_howManyLegal_38 : decode cX0_howManyLegal 38 = .ok (.iinc 2 1, 3) := by decide +kernel
theorem dX0_howManyLegal_41 : decode cX0_howManyLegal 41 = .ok (.goto (-37), 3) := by decide +kernel
theorem dX0_howManyLegal_44 : decode cX0_howManyLegal 44 = .ok (.iload_n 1, 1) := by decide +kernel
theorem dX0_howManyLegal_45 : decode cX0_howManyLegal 45 = .ok (.ireturn, 1) := by decide +kernel

theorem dX5_init_34 : decode cX5_init 34 = .ok (.putfield 22, 3) := by decide +kernel
theorem dX5_init_37 : decode cX5_init 37 = .ok (.aload_n 0, 1) := by decide +kernel
theorem dX5_init_38 : decode cX5_init 38 = .ok (.new 26, 3) := by decide +kernel
theorem dX5_init_41 : decode cX5_init 41 = .ok (.dup, 1) := by decide +kernel
theorem dX5_init_42 : decode cX5_init 42 = .ok (.invokespecial 28, 3) := by decide +kernel
theorem dX5_init_45 : decode cX5_init 45 = .ok (.putfield 29, 3) := by decide +kernel
theorem dX5_init_48 : decode cX5_init 48 = .ok (.aload_n 0, 1) := by decide +kernel
theorem dX5_init_49 : decode cX5_init 49 = .ok (.new 33, 3) := by decide +kernel
theorem dX5_init_52 : decode cX5_init 52 = .ok (.dup, 1) := by decide +kernel
theorem dX5_init_53 : decode cX5_init 53 = .ok (.invokespecial 35, 3) := by decide +kernel
theorem dX5_init_56 : decode cX5_init 56 = .ok (.putfield 36, 3) := by decide +kernel
theorem dX5_init_59 : decode cX5_init 59 = .ok (.aload_n 0, 1) := by decide +kernel
theorem dX5_init_60 : decode cX5_init 60 = .ok (.iconst 4, 1) := by decide +kernel
theorem dX5_init_61 : decode cX5_init 61 = .ok (.anewarray 40, 3) := by decide +kernel
theorem dX5_init_64 : decode cX5_init 64 = .ok (.putfield 42, 3) := by decide +kernel
theorem dX5_init_67 : decode cX5_init 67 = .ok (.iconst 0, 1) := by decide +kernel
theorem dX5_init_68 : decode cX5_init 68 = .ok (.istore_n 1, 1) := by decide +kernel
theorem dX5_init_69 : decode cX5_init 69 = .ok (.iload_n 1, 1) := by decide +kernel
theorem dX5_init_70 : decode cX5_init 70 = .ok (.iconst 4, 1) := by decide +kernel
theorem dX5_init_71 : decode cX5_init 71 = .ok (.if_icmp .ge 22, 3) := by decide +kernel
theorem dX5_init_74 : decode cX5_init 74 = .ok (.aload_n 0, 1) := by decide +kernel
theorem dX5_init_75 : decode cX5_init 75 = .ok (.getfield 42, 3) := by decide +kernel
theorem dX5_init_78 : decode cX5_init 78 = .ok (.iload_n 1, 1) := by decide +kernel
theorem dX5_init_79 : decode cX5_init 79 = .ok (.new 40, 3) := by decide +kernel
theorem dX5_init_82 : decode cX5_init 82 = .ok (.dup, 1) := by decide +kernel
theorem dX5_init_83 : decode cX5_init 83 = .ok (.invokespecial 46, 3) := by decide +kernel
theorem dX5_init_86 : decode cX5_init 86 = .ok (.aastore, 1) := by decide +kernel
theorem dX5_init_87 : decode cX5_init 87 = .ok (.iinc 1 1, 3) := by decide +kernel
theorem dX5_init_90 : decode cX5_init 90 = .ok (.goto (-21), 3) := by decide +kernel
theorem dX5_init_93 : decode cX5_init 93 = .ok (.aload_n 0, 1) := by decide +kernel
theorem dX5_init_94 : decode cX5_init 94 = .ok (.new 7, 3) := by decide +kernel
theorem dX5_init_97 : decode cX5_init 97 = .ok (.dup, 1) := by decide +kernel
theorem dX5_init_98 : decode cX5_init 98 = .ok (.invokespecial 9, 3) := by decide +kernel
theorem dX5_init_101 : decode cX5_init 101 = .ok (.putfield 47, 3) := by decide +kernel
theorem dX5_init_104 : decode cX5_init 104 = .ok (.aload_n 0, 1) := by decide +kernel
theorem dX5_init_105 : decode cX5_init 105 = .ok (.new 19, 3) := by decide +kernel
theorem dX5_init_108 : decode cX5_init 108 = .ok (.dup, 1) := by decide +kernel
theorem dX5_init_109 : decode cX5_init 109 = .ok (.invokespecial 21, 3) := by decide +kernel
theorem dX5_init_112 : decode cX5_init 112 = .ok (.putfield 50, 3) := by decide +kernel
theorem dX5_init_115 : decode cX5_init 115 = .ok (.return_, 1) := by decide +kernel
set_option maxRecDepth 20000 in
theorem ggX5_clerk_X5_isDesk : GoodIn wsX5_clerk wsX5_isDesk := goodIn_r _ [7] (by decide +kernel) (by decide +kernel)
set_option maxRecDepth 20000 in
theorem gX5_clerk_X5_isDesk : GoodIn wsX5_clerk (va_wsS RX5 53 yX5_isDesk wsX5_isDesk) := goodIn_app (goodIn_of _ (by decide +kernel)) ggX5_clerk_X5_isDesk
set_option maxRecDepth 20000 in
theorem ggX5_clerk_X1_seatNew : GoodIn wsX5_clerk wsX1_seatNew := goodIn_r _ [12, 13, 14, 15, 16, 17, 18, 34, 35, 36, 37, 38, 39, 40, 41, 42, 43, 44, 45] (by decide +kernel) (by decide +kernel)
set_option maxRecDepth 20000 in
theorem gX5_clerk_X1_seatNew : GoodIn wsX5_clerk (wsV RX5 61 RX1 yX1_seatNew wsX1_seatNew) := goodIn_app (goodIn_of _ (by decide +kernel)) ggX5_clerk_X1_seatNew
set_option maxRecDepth 20000 in
theorem ggX5_clerk_X0_forget : GoodIn wsX5_clerk wsX0_forget := goodIn_r _ [23, 24, 46, 47, 48, 49, 50, 51] (by decide +kernel) (by decide +kernel)
set_option maxRecDepth 20000 in
theorem gX5_clerk_X0_forget : GoodIn wsX5_clerk (wsV RX5 65 RX0 yX0_forget wsX0_forget) := goodIn_app (goodIn_of _ (by decide +kernel)) ggX5_clerk_X0_forget
theorem dX5_clerk_0 : decode cX5_clerk 0 = .ok (.iload_n 1, 1) := by decide +kernel
theorem dX5_clerk_1 : decode cX5_clerk 1 = .ok (.ifCond .lt 26, 3) := by decide +kernel
theorem dX5_clerk_4 : decode cX5_clerk 4 = .ok (.iload_n 1, 1) := by decide +kernel
theorem dX5_clerk_5 : decode cX5_clerk 5 = .ok (.iconst 5, 1) := by decide +kernel
theorem dX5_clerk_6 : decode cX5_clerk 6 = .ok (.if_icmp .ge 21, 3) := by decide +kernel
theorem dX5_clerk_9 : decode cX5_clerk 9 = .ok (.iload_n 2, 1) := by decide +kernel
theorem dX5_clerk_10 : decode cX5_clerk 10 = .ok (.invokestatic 53, 3) := by decide +kernel
theorem dX5_clerk_13 : decode cX5_clerk 13 = .ok (.ifCond .eq 14, 3) := by decide +kernel
theorem dX5_clerk_16 : decode cX5_clerk 16 = .ok (.iload_n 3, 1) := by decide +kernel
theorem dX5_clerk_17 : decode cX5_clerk 17 = .ok (.iconst 1, 1) := by decide +kernel
theorem dX5_clerk_18 : decode cX5_clerk 18 = .ok (.if_icmp .lt 9, 3) := by decide +kernel
theorem dX5_clerk_21 : decode cX5_clerk 21 = .ok (.iload_n 3, 1) := by decide +kernel
theorem dX5_clerk_22 : decode cX5_clerk 22 = .ok (.bipush 9, 2) := by decide +kernel
theorem dX5_clerk_24 : decode cX5_clerk 24 = .ok (.if_icmp .le 5, 3) := by decide +kernel
theorem dX5_clerk_27 : decode cX5_clerk 27 = .ok (.iconst (-1), 1) := by decide +kernel
theorem dX5_clerk_28 : decode cX5_clerk 28 = .ok (.ireturn, 1) := by decide +kernel
theorem dX5_clerk_29 : decode cX5_clerk 29 = .ok (.aload_n 0, 1) := by decide +kernel
theorem dX5_clerk_30 : decode cX5_clerk 30 = .ok (.getfield 10, 3) := by decide +kernel
theorem dX5_clerk_33 : decode cX5_clerk 33 = .ok (.getfield 57, 3) := by decide +kernel
theorem dX5_clerk_36 : decode cX5_clerk 36 = .ok (.bipush 6, 2) := by decide +kernel
theorem dX5_clerk_38 : decode cX5_clerk 38 = .ok (.if_icmp .lt 6, 3) := by decide +kernel
theorem dX5_clerk_41 : decode cX5_clerk 41 = .ok (.bipush (-3), 2) := by decide +kernel
theorem dX5_clerk_43 : decode cX5_clerk 43 = .ok (.ireturn, 1) := by decide +kernel
theorem dX5_clerk_44 : decode cX5_clerk 44 = .ok (.aload_n 0, 1) := by decide +kernel
theorem dX5_clerk_45 : decode cX5_clerk 45 = .ok (.getfield 10, 3) := by decide +kernel
theorem dX5_clerk_48 : decode cX5_clerk 48 = .ok (.iload_n 1, 1) := by decide +kernel
theorem dX5_clerk_49 : decode cX5_clerk 49 = .ok (.iload_n 2, 1) := by decide +kernel
theorem dX5_clerk_50 : decode cX5_clerk 50 = .ok (.iload_n 3, 1) := by decide +kernel
theorem dX5_clerk_51 : decode cX5_clerk 51 = .ok (.invokevirtual 61, 3) := by decide +kernel
theorem dX5_clerk_54 : decode cX5_clerk 54 = .ok (.aload_n 0, 1) := by decide +kernel
theorem dX5_clerk_55 : decode cX5_clerk 55 = .ok (.getfield 22, 3) := by decide +kernel
theorem dX5_clerk_58 : decode cX5_clerk 58 = .ok (.invokevirtual 65, 3) := by decide +kernel
theorem dX5_clerk_61 : decode cX5_clerk 61 = .ok (.aload_n 0, 1) := by decide +kernel
theorem dX5_clerk_62 : decode cX5_clerk 62 = .ok (.getfield 10, 3) := by decide +kernel
theorem dX5_clerk_65 : decode cX5_clerk 65 = .ok (.getfield 57, 3) := by decide +kernel
theorem dX5_clerk_68 : decode cX5_clerk 68 = .ok (.iconst 1, 1) := by decide +kernel
theorem dX5_clerk_69 : decode cX5_clerk 69 = .ok (.isub, 1) := by decide +kernel
theorem dX5_clerk_70 : decode cX5_clerk 70 = .ok (.ireturn, 1) := by decide +kernel
set_option maxRecDepth 20000 in
theorem ggX5_of_X5_isClerk : GoodIn wsX5_of wsX5_isClerk := goodIn_r _ [10, 1, 11, 31, 32, 33, 34, 35, 36, 37, 38, 39, 40, 41, 42, 43, 44, 45, 46, 47, 48, 49, 50, 51] (by decide +kernel) (by decide +kernel)
set_option maxRecDepth 20000 in
theorem gX5_of_X5_isClerk : GoodIn wsX5_of (wsV RX5 68 RX5 yX5_isClerk wsX5_isClerk) := goodIn_app (goodIn_of _ (by decide +kernel)) ggX5_of_X5_isClerk
set_option maxRecDepth 20000 in
theorem ggX5_of_X1_isSmoking : GoodIn wsX5_of wsX1_isSmoking := goodIn_r _ [16, 17, 40, 41, 42, 43, 44, 45, 46, 47, 48, 49, 50, 51] (by decide +kernel) (by decide +kernel)
set_option maxRecDepth 20000 in
theorem gX5_of_X1_isSmoking : GoodIn wsX5_of (wsV RX5 84 RX1 yX1_isSmoking wsX1_isSmoking) := goodIn_app (goodIn_of _ (by decide +kernel)) ggX5_of_X1_isSmoking
set_option maxRecDepth 20000 in
theorem ggX5_of_X1_holds : GoodIn wsX5_of wsX1_holds := goodIn_r _ [21, 22, 23, 24, 25, 26, 27, 28, 29, 30, 13, 14, 15, 16, 17, 40, 41, 42, 43, 44, 45, 46, 47, 48, 49, 50, 51] (by decide +kernel) (by decide +kernel)
set_option maxRecDepth 20000 in
theorem gX5_of_X1_holds : GoodIn wsX5_of (wsV RX5 87 RX1 yX1_holds wsX1_holds) := goodIn_app (goodIn_of _ (by decide +kernel)) ggX5_of_X1_holds
theorem dX5_of_0 : decode cX5_of 0 = .ok (.aload_n 0, 1) := by decide +kernel
theorem dX5_of_1 : decode cX5_of 1 = .ok (.iload_n 1, 1) := by decide +kernel
theorem dX5_of_2 : decode cX5_of 2 = .ok (.invokevirtual 68, 3) := by decide +kernel
theorem dX5_of_5 : decode cX5_of 5 = .ok (.ifCond .ne 5, 3) := by decide +kernel
theorem dX5_of_8 : decode cX5_of 8 = .ok (.iconst (-1), 1) := by decide +kernel
theorem dX5_of_9 : decode cX5_of 9 = .ok (.ireturn, 1) := by decide +kernel
theorem dX5_of_10 : decode cX5_of 10 = .ok (.iload_n 2, 1) := by decide +kernel
theorem dX5_of_11 : decode cX5_of 11 = .ok (.tableswitch 103 0 5 #[37, 47, 57, 67, 77, 94], 37) := by decide +kernel
theorem dX5_of_48 : decode cX5_of 48 = .ok (.aload_n 0, 1) := by decide +kernel
theorem dX5_of_49 : decode cX5_of 49 = .ok (.getfield 10, 3) := by decide +kernel
theorem dX5_of_52 : decode cX5_of 52 = .ok (.getfield 71, 3) := by decide +kernel
theorem dX5_of_55 : decode cX5_of 55 = .ok (.iload_n 1, 1) := by decide +kernel
theorem dX5_of_56 : decode cX5_of 56 = .ok (.iaload, 1) := by decide +kernel
theorem dX5_of_57 : decode cX5_of 57 = .ok (.ireturn, 1) := by decide +kernel
theorem dX5_of_58 : decode cX5_of 58 = .ok (.aload_n 0, 1) := by decide +kernel
theorem dX5_of_59 : decode cX5_of 59 = .ok (.getfield 10, 3) := by decide +kernel
theorem dX5_of_62 : decode cX5_of 62 = .ok (.getfield 75, 3) := by decide +kernel
theorem dX5_of_65 : decode cX5_of 65 = .ok (.iload_n 1, 1) := by decide +kernel
theorem dX5_of_66 : decode cX5_of 66 = .ok (.iaload, 1) := by decide +kernel
theorem dX5_of_67 : decode cX5_of 67 = .ok (.ireturn, 1) := by decide +kernel
theorem dX5_of_68 : decode cX5_of 68 = .ok (.aload_n 0, 1) := by decide +kernel
theorem dX5_of_69 : decode cX5_of 69 = .ok (.getfield 10, 3) := by decide +kernel
theorem dX5_of_72 : decode cX5_of 72 = .ok (.getfield 78, 3) := by decide +kernel
theorem dX5_of_75 : decode cX5_of 75 = .ok (.iload_n 1, 1) := by decide +kernel
theorem dX5_of_76 : decode cX5_of 76 = .ok (.iaload, 1) := by decide +kernel
theorem dX5_of_77 : decode cX5_of 77 = .ok (.ireturn, 1) := by decide +kernel
theorem dX5_of_78 : decode cX5_of 78 = .ok (.aload_n 0, 1) := by decide +kernel
theorem dX5_of_79 : decode cX5_of 79 = .ok (.getfield 10, 3) := by decide +kernel
theorem dX5_of_82 : decode cX5_of 82 = .ok (.getfield 81, 3) := by decide +kernel
theorem dX5_of_85 : decode cX5_of 85 = .ok (.iload_n 1, 1) := by decide +kernel
theorem dX5_of_86 : decode cX5_of 86 = .ok (.iaload, 1) := by decide +kernel
theorem dX5_of_87 : decode cX5_of 87 = .ok (.ireturn, 1) := by decide +kernel
theorem dX5_of_88 : decode cX5_of 88 = .ok (.aload_n 0, 1) := by decide +kernel
theorem dX5_of_89 : decode cX5_of 89 = .ok (.getfield 10, 3) := by decide +kernel
theorem dX5_of_92 : decode cX5_of 92 = .ok (.iload_n 1, 1) := by decide +kernel
theorem dX5_of_93 : decode cX5_of 93 = .ok (.invokevirtual 84, 3) := by decide +kernel
theorem dX5_of_96 : decode cX5_of 96 = .ok (.ifCond .eq 7, 3) := by decide +kernel
theorem dX5_of_99 : decode cX5_of 99 = .ok (.iconst 1, 1) := by decide +kernel
theorem dX5_of_100 : decode cX5_of 100 = .ok (.goto 4, 3) := by decide +kernel
theorem dX5_of_103 : decode cX5_of 103 = .ok (.iconst 0, 1) := by decide +kernel
theorem dX5_of_104 : decode cX5_of 104 = .ok (.ireturn, 1) := by decide +kernel
theorem dX5_of_105 : decode cX5_of 105 = .ok (.aload_n 0, 1) := by decide +kernel
theorem dX5_of_106 : decode cX5_of 106 = .ok (.getfield 10, 3) := by decide +kernel
theorem dX5_of_109 : decode cX5_of 109 = .ok (.iload_n 1, 1) := by decide +kernel
theorem dX5_of_110 : decode cX5_of 110 = .ok (.invokevirtual 87, 3) := by decide +kernel
theorem dX5_of_113 : decode cX5_of 113 = .ok (.ireturn, 1) := by decide +kernel
theorem dX5_of_114 : decode cX5_of 114 = .ok (.iconst (-1), 1) := by decide +kernel
theorem dX5_of_115 : decode cX5_of 115 = .ok (.ireturn, 1) := by decide +kernel
set_option maxRecDepth 20000 in
theorem ggX5_desk_X5_isClerk : GoodIn wsX5_desk wsX5_isClerk := goodIn_r _ [7, 1, 8, 12, 13, 14, 15, 16, 17, 18, 19, 20, 21, 22, 23, 24, 25, 26, 27, 28, 29, 30, 31, 32] (by decide +kernel) (by decide +kernel)
set_option maxRecDepth 20000 in
theorem gX5_desk_X5_isClerk : GoodIn wsX5_desk (wsV RX5 68 RX5 yX5_isClerk wsX5_isClerk) := goodIn_app (goodIn_of _ (by decide +kernel)) ggX5_desk_X5_isClerk
set_option maxRecDepth 20000 in
theorem ggX5_desk_X5_isDesk : GoodIn wsX5_desk wsX5_isDesk := goodIn_r _ [11] (by decide +kernel) (by decide +kernel)
set_option maxRecDepth 20000 in
theorem gX5_desk_X5_isDesk : GoodIn wsX5_desk (va_wsS RX5 53 yX5_isDesk wsX5_isDesk) := goodIn_app (goodIn_of _ (by decide +kernel)) ggX5_desk_X5_isDesk
theorem dX5_desk_0 : decode cX5_desk 0 = .ok (.aload_n 0, 1) := by decide +kernel
theorem dX5_desk_1 : decode cX5_desk 1 = .ok (.iload_n 1, 1) := by decide +kernel
theorem dX5_desk_2 : decode cX5_desk 2 = .ok (.invokevirtual 68, 3) := by decide +kernel
theorem dX5_desk_5 : decode cX5_desk 5 = .ok (.ifCond .eq 10, 3) := by decide +kernel
theorem dX5_desk_8 : decode cX5_desk 8 = .ok (.iload_n 2, 1) := by decide +kernel
theorem dX5_desk_9 : decode cX5_desk 9 = .ok (.invokestatic 53, 3) := by decide +kernel
theorem dX5_desk_12 : decode cX5_desk 12 = .ok (.ifCond .ne 5, 3) := by decide +kernel
theorem dX5_desk_15 : decode cX5_desk 15 = .ok (.iconst (-1), 1) := by decide +kernel
theorem dX5_desk_16 : decode cX5_desk 16 = .ok (.ireturn, 1) := by decide +kernel
theorem dX5_desk_17 : decode cX5_desk 17 = .ok (.aload_n 0, 1) := by decide +kernel
theorem dX5_desk_18 : decode cX5_desk 18 = .ok (.getfield 10, 3) := by decide +kernel
theorem dX5_desk_21 : decode cX5_desk 21 = .ok (.getfield 75, 3) := by decide +kernel
theorem dX5_desk_24 : decode cX5_desk 24 = .ok (.iload_n 1, 1) := by decide +kernel
theorem dX5_desk_25 : decode cX5_desk 25 = .ok (.iaload, 1) := by decide +kernel
theorem dX5_desk_26 : decode cX5_desk 26 = .ok (.istore_n 3, 1) := by decide +kernel
theorem dX5_desk_27 : decode cX5_desk 27 = .ok (.aload_n 0, 1) := by decide +kernel
theorem dX5_desk_28 : decode cX5_desk 28 = .ok (.getfield 10, 3) := by decide +kernel
theorem dX5_desk_31 : decode cX5_desk 31 = .ok (.getfield 75, 3) := by decide +kernel
theorem dX5_desk_34 : decode cX5_desk 34 = .ok (.iload_n 1, 1) := by decide +kernel
theorem dX5_desk_35 : decode cX5_desk 35 = .ok (.iload_n 2, 1) := by decide +kernel
theorem dX5_desk_36 : decode cX5_desk 36 = .ok (.iastore, 1) := by decide +kernel
theorem dX5_desk_37 : decode cX5_desk 37 = .ok (.iload_n 3, 1) := by decide +kernel
theorem dX5_desk_38 : decode cX5_desk 38 = .ok (.ireturn, 1) := by decide +kernel
theorem dX5_rule_0 : decode cX5_rule 0 = .ok (.iload_n 1, 1) := by decide +kernel
theorem dX5_rule_1 : decode cX5_rule 1 = .ok (.ifCond .ne 33, 3) := by decide +kernel
theorem dX5_rule_4 : decode cX5_rule 4 = .ok (.iload_n 2, 1) := by decide +kernel
theorem dX5_rule_5 : decode cX5_rule 5 = .ok (.iconst 1, 1) := by decide +kernel
theorem dX5_rule_6 : decode cX5_rule 6 = .ok (.if_icmp .lt 28, 3) := by decide +kernel
theorem dX5_rule_9 : decode cX5_rule 9 = .ok (.iload_n 2, 1) := by decide +kernel
theorem dX5_rule_10 : decode cX5_rule 10 = .ok (.bipush 9, 2) := by decide +kernel
theorem dX5_rule_12 : decode cX5_rule 12 = .ok (.if_icmp .gt 22, 3) := by decide +kernel
theorem dX5_rule_15 : decode cX5_rule 15 = .ok (.aload_n 0, 1) := by decide +kernel
theorem dX5_rule_16 : decode cX5_rule 16 = .ok (.getfield 10, 3) := by decide +kernel
theorem dX5_rule_19 : decode cX5_rule 19 = .ok (.getfield 91, 3) := by decide +kernel
theorem dX5_rule_22 : decode cX5_rule 22 = .ok (.istore_n 3, 1) := by decide +kernel
theorem dX5_rule_23 : decode cX5_rule 23 = .ok (.aload_n 0, 1) := by decide +kernel
theorem dX5_rule_24 : decode cX5_rule 24 = .ok (.getfield 10, 3) := by decide +kernel
theorem dX5_rule_27 : decode cX5_rule 27 = .ok (.iload_n 2, 1) := by decide +kernel
theorem dX5_rule_28 : decode cX5_rule 28 = .ok (.putfield 91, 3) := by decide +kernel
theorem dX5_rule_31 : decode cX5_rule 31 = .ok (.goto 39, 3) := by decide +kernel
theorem dX5_rule_34 : decode cX5_rule 34 = .ok (.iload_n 1, 1) := by decide +kernel
theorem dX5_rule_35 : decode cX5_rule 35 = .ok (.iconst 1, 1) := by decide +kernel
theorem dX5_rule_36 : decode cX5_rule 36 = .ok (.if_icmp .ne 32, 3) := by decide +kernel
theorem dX5_rule_39 : decode cX5_rule 39 = .ok (.iload_n 2, 1) := by decide +kernel
theorem dX5_rule_40 : decode cX5_rule 40 = .ok (.ifCond .lt 28, 3) := by decide +kernel
theorem dX5_rule_43 : decode cX5_rule 43 = .ok (.iload_n 2, 1) := by decide +kernel
theorem dX5_rule_44 : decode cX5_rule 44 = .ok (.bipush 9, 2) := by decide +kernel
theorem dX5_rule_46 : decode cX5_rule 46 = .ok (.if_icmp .gt 22, 3) := by decide +kernel
theorem dX5_rule_49 : decode cX5_rule 49 = .ok (.aload_n 0, 1) := by decide +kernel
theorem dX5_rule_50 : decode cX5_rule 50 = .ok (.getfield 10, 3) := by decide +kernel
theorem dX5_rule_53 : decode cX5_rule 53 = .ok (.getfield 94, 3) := by decide +kernel
theorem dX5_rule_56 : decode cX5_rule 56 = .ok (.istore_n 3, 1) := by decide +kernel
theorem dX5_rule_57 : decode cX5_rule 57 = .ok (.aload_n 0, 1) := by decide +kernel
theorem dX5_rule_58 : decode cX5_rule 58 = .ok (.getfield 10, 3) := by decide +kernel
theorem dX5_rule_61 : decode cX5_rule 61 = .ok (.iload_n 2, 1) := by decide +kernel
theorem dX5_rule_62 : decode cX5_rule 62 = .ok (.putfield 94, 3) := by decide +kernel
theorem dX5_rule_65 : decode cX5_rule 65 = .ok (.goto 5, 3) := by decide +kernel
theorem dX5_rule_68 : decode cX5_rule 68 = .ok (.iconst (-1), 1) := by decide +kernel
theorem dX5_rule_69 : decode cX5_rule 69 = .ok (.istore_n 3, 1) := by decide +kernel
theorem dX5_rule_70 : decode cX5_rule 70 = .ok (.iload_n 3, 1) := by decide +kernel
theorem dX5_rule_71 : decode cX5_rule 71 = .ok (.ireturn, 1) := by decide +kernel
set_option maxRecDepth 20000 in
theorem ggX5_type_X4_put : GoodIn wsX5_type wsX4_put := goodIn_r _ [6, 7, 8, 18, 19, 20, 21] (by decide +kernel) (by decide +kernel)
set_option maxRecDepth 20000 in
theorem gX5_type_X4_put : GoodIn wsX5_type (wsV RX5 97 RX4 yX4_put wsX4_put) := goodIn_app (goodIn_of _ (by decide +kernel)) ggX5_type_X4_put
theorem dX5_type_0 : decode cX5_type 0 = .ok (.iload_n 1, 1) := by decide +kernel
theorem dX5_type_1 : decode cX5_type 1 = .ok (.bipush 32, 2) := by decide +kernel
theorem dX5_type_3 : decode cX5_type 3 = .ok (.if_icmp .lt 9, 3) := by decide +kernel
theorem dX5_type_6 : decode cX5_type 6 = .ok (.iload_n 1, 1) := by decide +kernel
theorem dX5_type_7 : decode cX5_type 7 = .ok (.bipush 126, 2) := by decide +kernel
theorem dX5_type_9 : decode cX5_type 9 = .ok (.if_icmp .le 5, 3) := by decide +kernel
theorem dX5_type_12 : decode cX5_type 12 = .ok (.iconst (-1), 1) := by decide +kernel
theorem dX5_type_13 : decode cX5_type 13 = .ok (.ireturn, 1) := by decide +kernel
theorem dX5_type_14 : decode cX5_type 14 = .ok (.aload_n 0, 1) := by decide +kernel
theorem dX5_type_15 : decode cX5_type 15 = .ok (.getfield 29, 3) := by decide +kernel
theorem dX5_type_18 : decode cX5_type 18 = .ok (.iload_n 1, 1) := by decide +kernel
theorem dX5_type_19 : decode cX5_type 19 = .ok (.invokevirtual 97, 3) := by decide +kernel
theorem dX5_type_22 : decode cX5_type 22 = .ok (.ireturn, 1) := by decide +kernel
set_option maxRecDepth 20000 in
theorem ggX5_office_X4_read : GoodIn wsX5_office wsX4_read := goodIn_r _ [10, 11, 12, 13, 14, 15, 16, 17, 18, 19, 20, 21, 22, 23, 24, 25, 26, 9, 27, 28, 29, 30, 31, 32, 33, 34, 35, 36, 37, 38, 39, 40, 41, 42, 43, 44, 45, 46, 47, 48, 49, 50, 51, 52, 53, 54, 55, 56, 57, 58, 59, 60, 61, 62, 63, 64, 65, 66, 67, 68, 69, 70, 113, 114, 115, 116, 101, 102, 103, 104, 105, 106, 107, 108, 109, 110, 111, 112] (by decide +kernel) (by decide +kernel)
set_option maxRecDepth 20000 in
theorem gX5_office_X4_read : GoodIn wsX5_office (wsV RX5 100 RX4 yX4_read wsX4_read) := goodIn_app (goodIn_of _ (by decide +kernel)) ggX5_office_X4_read
set_option maxRecDepth 20000 in
theorem ggX5_office_X4_clear : GoodIn wsX5_office wsX4_clear := goodIn_r _ [74, 32, 113, 114, 115, 116] (by decide +kernel) (by decide +kernel)
set_option maxRecDepth 20000 in
theorem gX5_office_X4_clear : GoodIn wsX5_office (wsV RX5 104 RX4 yX4_clear wsX4_clear) := goodIn_app (goodIn_of _ (by decide +kernel)) ggX5_office_X4_clear
set_option maxRecDepth 20000 in
theorem ggX5_office_X1_take : GoodIn wsX5_office wsX1_take := goodIn_r _ [78, 67, 79, 80, 81, 82, 68, 69, 70, 21, 22, 83, 84, 23, 85, 101, 102, 103, 104, 105, 106, 107, 108, 109, 110, 111, 112] (by decide +kernel) (by decide +kernel)
set_option maxRecDepth 20000 in
theorem gX5_office_X1_take : GoodIn wsX5_office (wsV RX5 110 RX1 yX1_take wsX1_take) := goodIn_app (goodIn_of _ (by decide +kernel)) ggX5_office_X1_take
set_option maxRecDepth 20000 in
theorem ggX5_office_X0_forget : GoodIn wsX5_office wsX0_forget := goodIn_r _ [90, 91, 117, 118, 119, 120, 121, 122] (by decide +kernel) (by decide +kernel)
set_option maxRecDepth 20000 in
theorem gX5_office_X0_forget : GoodIn wsX5_office (wsV RX5 65 RX0 yX0_forget wsX0_forget) := goodIn_app (goodIn_of _ (by decide +kernel)) ggX5_office_X0_forget
theorem dX5_office_0 : decode cX5_office 0 = .ok (.aload_n 0, 1) := by decide +kernel
theorem dX5_office_1 : decode cX5_office 1 = .ok (.getfield 29, 3) := by decide +kernel
theorem dX5_office_4 : decode cX5_office 4 = .ok (.aload_n 0, 1) := by decide +kernel
theorem dX5_office_5 : decode cX5_office 5 = .ok (.getfield 16, 3) := by decide +kernel
theorem dX5_office_8 : decode cX5_office 8 = .ok (.invokevirtual 100, 3) := by decide +kernel
theorem dX5_office_11 : decode cX5_office 11 = .ok (.istore_n 1, 1) := by decide +kernel
theorem dX5_office_12 : decode cX5_office 12 = .ok (.aload_n 0, 1) := by decide +kernel
theorem dX5_office_13 : decode cX5_office 13 = .ok (.getfield 29, 3) := by decide +kernel
theorem dX5_office_16 : decode cX5_office 16 = .ok (.invokevirtual 104, 3) := by decide +kernel
theorem dX5_office_19 : decode cX5_office 19 = .ok (.iload_n 1, 1) := by decide +kernel
theorem dX5_office_20 : decode cX5_office 20 = .ok (.ifCond .lt 35, 3) := by decide +kernel
theorem dX5_office_23 : decode cX5_office 23 = .ok (.aload_n 0, 1) := by decide +kernel
theorem dX5_office_24 : decode cX5_office 24 = .ok (.getfield 16, 3) := by decide +kernel
theorem dX5_office_27 : decode cX5_office 27 = .ok (.aload_n 0, 1) := by decide +kernel
theorem dX5_office_28 : decode cX5_office 28 = .ok (.getfield 10, 3) := by decide +kernel
theorem dX5_office_31 : decode cX5_office 31 = .ok (.getfield 107, 3) := by decide +kernel
theorem dX5_office_34 : decode cX5_office 34 = .ok (.putfield 107, 3) := by decide +kernel
theorem dX5_office_37 : decode cX5_office 37 = .ok (.aload_n 0, 1) := by decide +kernel
theorem dX5_office_38 : decode cX5_office 38 = .ok (.getfield 10, 3) := by decide +kernel
theorem dX5_office_41 : decode cX5_office 41 = .ok (.aload_n 0, 1) := by decide +kernel
theorem dX5_office_42 : decode cX5_office 42 = .ok (.getfield 16, 3) := by decide +kernel
theorem dX5_office_45 : decode cX5_office 45 = .ok (.invokevirtual 110, 3) := by decide +kernel
theorem dX5_office_48 : decode cX5_office 48 = .ok (.aload_n 0, 1) := by decide +kernel
theorem dX5_office_49 : decode cX5_office 49 = .ok (.getfield 22, 3) := by decide +kernel
theorem dX5_office_52 : decode cX5_office 52 = .ok (.invokevirtual 65, 3) := by decide +kernel
theorem dX5_office_55 : decode cX5_office 55 = .ok (.iload_n 1, 1) := by decide +kernel
theorem dX5_office_56 : decode cX5_office 56 = .ok (.ireturn, 1) := by decide +kernel
set_option maxRecDepth 20000 in
theorem ggX5_count_X1_worth : GoodIn wsX5_count wsX1_worth := goodIn_r _ [13, 14, 15, 16, 30, 31, 32, 33, 34, 35, 36, 37, 38, 39, 40, 41] (by decide +kernel) (by decide +kernel)
set_option maxRecDepth 20000 in
theorem gX5_count_X1_worth : GoodIn wsX5_count (wsV RX5 117 RX1 yX1_worth wsX1_worth) := goodIn_app (goodIn_of _ (by decide +kernel)) ggX5_count_X1_worth
set_option maxRecDepth 20000 in
theorem ggX5_count_X1_withAsh : GoodIn wsX5_count wsX1_withAsh := goodIn_r _ [20, 14, 15, 30, 31, 32, 33, 34, 35, 36, 37, 38, 39, 40, 41] (by decide +kernel) (by decide +kernel)
set_option maxRecDepth 20000 in
theorem gX5_count_X1_withAsh : GoodIn wsX5_count (wsV RX5 124 RX1 yX1_withAsh wsX1_withAsh) := goodIn_app (goodIn_of _ (by decide +kernel)) ggX5_count_X1_withAsh
theorem dX5_count_0 : decode cX5_count 0 = .ok (.iload_n 1, 1) := by decide +kernel
theorem dX5_count_1 : decode cX5_count 1 = .ok (.tableswitch 111 0 7 #[47, 55, 63, 71, 79, 87, 95, 103], 47) := by decide +kernel
theorem dX5_count_48 : decode cX5_count 48 = .ok (.aload_n 0, 1) := by decide +kernel
theorem dX5_count_49 : decode cX5_count 49 = .ok (.getfield 10, 3) := by decide +kernel
theorem dX5_count_52 : decode cX5_count 52 = .ok (.getfield 57, 3) := by decide +kernel
theorem dX5_count_55 : decode cX5_count 55 = .ok (.ireturn, 1) := by decide +kernel
theorem dX5_count_56 : decode cX5_count 56 = .ok (.aload_n 0, 1) := by decide +kernel
theorem dX5_count_57 : decode cX5_count 57 = .ok (.getfield 10, 3) := by decide +kernel
theorem dX5_count_60 : decode cX5_count 60 = .ok (.getfield 114, 3) := by decide +kernel
theorem dX5_count_63 : decode cX5_count 63 = .ok (.ireturn, 1) := by decide +kernel
theorem dX5_count_64 : decode cX5_count 64 = .ok (.aload_n 0, 1) := by decide +kernel
theorem dX5_count_65 : decode cX5_count 65 = .ok (.getfield 10, 3) := by decide +kernel
theorem dX5_count_68 : decode cX5_count 68 = .ok (.getfield 91, 3) := by decide +kernel
theorem dX5_count_71 : decode cX5_count 71 = .ok (.ireturn, 1) := by decide +kernel
theorem dX5_count_72 : decode cX5_count 72 = .ok (.aload_n 0, 1) := by decide +kernel
theorem dX5_count_73 : decode cX5_count 73 = .ok (.getfield 10, 3) := by decide +kernel
theorem dX5_count_76 : decode cX5_count 76 = .ok (.getfield 94, 3) := by decide +kernel
theorem dX5_count_79 : decode cX5_count 79 = .ok (.ireturn, 1) := by decide +kernel
theorem dX5_count_80 : decode cX5_count 80 = .ok (.aload_n 0, 1) := by decide +kernel
theorem dX5_count_81 : decode cX5_count 81 = .ok (.getfield 10, 3) := by decide +kernel
theorem dX5_count_84 : decode cX5_count 84 = .ok (.invokevirtual 117, 3) := by decide +kernel
theorem dX5_count_87 : decode cX5_count 87 = .ok (.ireturn, 1) := by decide +kernel
theorem dX5_count_88 : decode cX5_count 88 = .ok (.aload_n 0, 1) := by decide +kernel
theorem dX5_count_89 : decode cX5_count 89 = .ok (.getfield 10, 3) := by decide +kernel
theorem dX5_count_92 : decode cX5_count 92 = .ok (.getfield 121, 3) := by decide +kernel
theorem dX5_count_95 : decode cX5_count 95 = .ok (.ireturn, 1) := by decide +kernel
theorem dX5_count_96 : decode cX5_count 96 = .ok (.aload_n 0, 1) := by decide +kernel
theorem dX5_count_97 : decode cX5_count 97 = .ok (.getfield 10, 3) := by decide +kernel
theorem dX5_count_100 : decode cX5_count 100 = .ok (.invokevirtual 124, 3) := by decide +kernel
theorem dX5_count_103 : decode cX5_count 103 = .ok (.ireturn, 1) := by decide +kernel
theorem dX5_count_104 : decode cX5_count 104 = .ok (.aload_n 0, 1) := by decide +kernel
theorem dX5_count_105 : decode cX5_count 105 = .ok (.getfield 22, 3) := by decide +kernel
theorem dX5_count_108 : decode cX5_count 108 = .ok (.getfield 127, 3) := by decide +kernel
theorem dX5_count_111 : decode cX5_count 111 = .ok (.ireturn, 1) := by decide +kernel
theorem dX5_count_112 : decode cX5_count 112 = .ok (.iconst (-1), 1) := by decide +kernel
theorem dX5_count_113 : decode cX5_count 113 = .ok (.ireturn, 1) := by decide +kernel
set_option maxRecDepth 20000 in
theorem ggX5_minutes_X5_refusalOfMinutes : GoodIn wsX5_minutes wsX5_refusalOfMinutes := goodIn_r _ [7, 2, 8, 51, 52, 53, 54, 55, 56, 57, 58, 59, 60, 61, 62, 63, 64, 65, 66, 67, 68, 69, 70, 71] (by decide +kernel) (by decide +kernel)
set_option maxRecDepth 20000 in
theorem gX5_minutes_X5_refusalOfMinutes : GoodIn wsX5_minutes (wsV RX5 130 RX5 yX5_refusalOfMinutes wsX5_refusalOfMinutes) := goodIn_app (goodIn_of _ (by decide +kernel)) ggX5_minutes_X5_refusalOfMinutes
set_option maxRecDepth 20000 in
theorem ggX5_minutes_X0_note : GoodIn wsX5_minutes wsX0_note := goodIn_r _ [13, 14, 15, 16, 17, 18, 19, 20, 21, 22, 23, 24, 25, 26, 27, 28, 29, 30, 31, 60, 61, 62, 63, 64, 65, 66, 67, 68, 69, 70, 71, 72, 73, 74, 75, 76, 77] (by decide +kernel) (by decide +kernel)
set_option maxRecDepth 20000 in
theorem gX5_minutes_X0_note : GoodIn wsX5_minutes (wsV RX5 133 RX0 yX0_note wsX0_note) := goodIn_app (goodIn_of _ (by decide +kernel)) ggX5_minutes_X0_note
set_option maxRecDepth 20000 in
theorem ggX5_minutes_X1_grow : GoodIn wsX5_minutes wsX1_grow := goodIn_r _ [36, 37, 38, 39, 40, 41, 42, 43, 35, 44, 45, 60, 61, 62, 63, 64, 65, 66, 67, 68, 69, 70, 71] (by decide +kernel) (by decide +kernel)
set_option maxRecDepth 20000 in
theorem gX5_minutes_X1_grow : GoodIn wsX5_minutes (wsV RX5 136 RX1 yX1_grow wsX1_grow) := goodIn_app (goodIn_of _ (by decide +kernel)) ggX5_minutes_X1_grow
set_option maxRecDepth 20000 in
theorem ggX5_minutes_X1_worth : GoodIn wsX5_minutes wsX1_worth := goodIn_r _ [49, 37, 40, 50, 60, 61, 62, 63, 64, 65, 66, 67, 68, 69, 70, 71] (by decide +kernel) (by decide +kernel)
set_option maxRecDepth 20000 in
theorem gX5_minutes_X1_worth : GoodIn wsX5_minutes (wsV RX5 117 RX1 yX1_worth wsX1_worth) := goodIn_app (goodIn_of _ (by decide +kernel)) ggX5_minutes_X1_worth
theorem dX5_minutes_0 : decode cX5_minutes 0 = .ok (.aload_n 0, 1) := by decide +kernel
theorem dX5_minutes_1 : decode cX5_minutes 1 = .ok (.iload_n 1, 1) := by decide +kernel
theorem dX5_minutes_2 : decode cX5_minutes 2 = .ok (.invokevirtual 130, 3) := by decide +kernel
theorem dX5_minutes_5 : decode cX5_minutes 5 = .ok (.istore_n 2, 1) := by decide +kernel
theorem dX5_minutes_6 : decode cX5_minutes 6 = .ok (.iload_n 2, 1) := by decide +kernel
theorem dX5_minutes_7 : decode cX5_minutes 7 = .ok (.ifCond .eq 5, 3) := by decide +kernel
theorem dX5_minutes_10 : decode cX5_minutes 10 = .ok (.iload_n 2, 1) := by decide +kernel
theorem dX5_minutes_11 : decode cX5_minutes 11 = .ok (.ireturn, 1) := by decide +kernel
theorem dX5_minutes_12 : decode cX5_minutes 12 = .ok (.iconst 0, 1) := by decide +kernel
theorem dX5_minutes_13 : decode cX5_minutes 13 = .ok (.istore_n 3, 1) := by decide +kernel
theorem dX5_minutes_14 : decode cX5_minutes 14 = .ok (.iload_n 3, 1) := by decide +kernel
theorem dX5_minutes_15 : decode cX5_minutes 15 = .ok (.iload_n 1, 1) := by decide +kernel
theorem dX5_minutes_16 : decode cX5_minutes 16 = .ok (.if_icmp .ge 27, 3) := by decide +kernel
theorem dX5_minutes_19 : decode cX5_minutes 19 = .ok (.aload_n 0, 1) := by decide +kernel
theorem dX5_minutes_20 : decode cX5_minutes 20 = .ok (.getfield 22, 3) := by decide +kernel
theorem dX5_minutes_23 : decode cX5_minutes 23 = .ok (.aload_n 0, 1) := by decide +kernel
theorem dX5_minutes_24 : decode cX5_minutes 24 = .ok (.getfield 10, 3) := by decide +kernel
theorem dX5_minutes_27 : decode cX5_minutes 27 = .ok (.invokevirtual 133, 3) := by decide +kernel
theorem dX5_minutes_30 : decode cX5_minutes 30 = .ok (.aload_n 0, 1) := by decide +kernel
theorem dX5_minutes_31 : decode cX5_minutes 31 = .ok (.getfield 10, 3) := by decide +kernel
theorem dX5_minutes_34 : decode cX5_minutes 34 = .ok (.invokevirtual 136, 3) := by decide +kernel
theorem dX5_minutes_37 : decode cX5_minutes 37 = .ok (.iinc 3 1, 3) := by decide +kernel
theorem dX5_minutes_40 : decode cX5_minutes 40 = .ok (.goto (-26), 3) := by decide +kernel
theorem dX5_minutes_43 : decode cX5_minutes 43 = .ok (.aload_n 0, 1) := by decide +kernel
theorem dX5_minutes_44 : decode cX5_minutes 44 = .ok (.getfield 10, 3) := by decide +kernel
theorem dX5_minutes_47 : decode cX5_minutes 47 = .ok (.invokevirtual 117, 3) := by decide +kernel
theorem dX5_minutes_50 : decode cX5_minutes 50 = .ok (.ireturn, 1) := by decide +kernel
set_option maxRecDepth 20000 in
theorem ggX5_shake_X5_isDesk : GoodIn wsX5_shake wsX5_isDesk := goodIn_r _ [6] (by decide +kernel) (by decide +kernel)
set_option maxRecDepth 20000 in
theorem gX5_shake_X5_isDesk : GoodIn wsX5_shake (va_wsS RX5 53 yX5_isDesk wsX5_isDesk) := goodIn_app (goodIn_of _ (by decide +kernel)) ggX5_shake_X5_isDesk
set_option maxRecDepth 20000 in
theorem ggX5_shake_X5_isForce : GoodIn wsX5_shake wsX5_isForce := goodIn_r _ [9] (by decide +kernel) (by decide +kernel)
set_option maxRecDepth 20000 in
theorem gX5_shake_X5_isForce : GoodIn wsX5_shake (va_wsS RX5 139 yX5_isForce wsX5_isForce) := goodIn_app (goodIn_of _ (by decide +kernel)) ggX5_shake_X5_isForce
set_option maxRecDepth 20000 in
theorem ggX5_shake_X0_note : GoodIn wsX5_shake wsX0_note := goodIn_r _ [14, 15, 16, 17, 18, 19, 20, 21, 22, 23, 24, 25, 26, 27, 28, 29, 30, 31, 32, 75, 76, 77, 78, 79, 80, 81, 82, 83, 84, 85, 86, 87, 88, 89, 90, 91, 92] (by decide +kernel) (by decide +kernel)
set_option maxRecDepth 20000 in
theorem gX5_shake_X0_note : GoodIn wsX5_shake (wsV RX5 133 RX0 yX0_note wsX0_note) := goodIn_app (goodIn_of _ (by decide +kernel)) ggX5_shake_X0_note
set_option maxRecDepth 20000 in
theorem ggX5_shake_X1_jolt : GoodIn wsX5_shake wsX1_jolt := goodIn_r _ [37, 38, 39, 40, 41, 42, 43, 44, 36, 45, 46, 47, 48, 31, 49, 50, 51, 52, 53, 54, 55, 56, 57, 58, 59, 60, 61, 62, 63, 64, 65, 75, 76, 77, 78, 79, 80, 81, 82, 83, 84, 85, 86] (by decide +kernel) (by decide +kernel)
set_option maxRecDepth 20000 in
theorem gX5_shake_X1_jolt : GoodIn wsX5_shake (wsV RX5 142 RX1 yX1_jolt wsX1_jolt) := goodIn_app (goodIn_of _ (by decide +kernel)) ggX5_shake_X1_jolt
theorem dX5_shake_0 : decode cX5_shake 0 = .ok (.iload_n 1, 1) := by decide +kernel
theorem dX5_shake_1 : decode cX5_shake 1 = .ok (.invokestatic 53, 3) := by decide +kernel
theorem dX5_shake_4 : decode cX5_shake 4 = .ok (.ifCond .eq 10, 3) := by decide +kernel
theorem dX5_shake_7 : decode cX5_shake 7 = .ok (.iload_n 2, 1) := by decide +kernel
theorem dX5_shake_8 : decode cX5_shake 8 = .ok (.invokestatic 139, 3) := by decide +kernel
theorem dX5_shake_11 : decode cX5_shake 11 = .ok (.ifCond .ne 5, 3) := by decide +kernel
theorem dX5_shake_14 : decode cX5_shake 14 = .ok (.iconst (-1), 1) := by decide +kernel
theorem dX5_shake_15 : decode cX5_shake 15 = .ok (.ireturn, 1) := by decide +kernel
theorem dX5_shake_16 : decode cX5_shake 16 = .ok (.aload_n 0, 1) := by decide +kernel
theorem dX5_shake_17 : decode cX5_shake 17 = .ok (.getfield 22, 3) := by decide +kernel
theorem dX5_shake_20 : decode cX5_shake 20 = .ok (.aload_n 0, 1) := by decide +kernel
theorem dX5_shake_21 : decode cX5_shake 21 = .ok (.getfield 10, 3) := by decide +kernel
theorem dX5_shake_24 : decode cX5_shake 24 = .ok (.invokevirtual 133, 3) := by decide +kernel
theorem dX5_shake_27 : decode cX5_shake 27 = .ok (.aload_n 0, 1) := by decide +kernel
theorem dX5_shake_28 : decode cX5_shake 28 = .ok (.getfield 10, 3) := by decide +kernel
theorem dX5_shake_31 : decode cX5_shake 31 = .ok (.iload_n 1, 1) := by decide +kernel
theorem dX5_shake_32 : decode cX5_shake 32 = .ok (.iload_n 2, 1) := by decide +kernel
theorem dX5_shake_33 : decode cX5_shake 33 = .ok (.invokevirtual 142, 3) := by decide +kernel
theorem dX5_shake_36 : decode cX5_shake 36 = .ok (.ireturn, 1) := by decide +kernel
set_option maxRecDepth 20000 in
theorem ggX5_lay_X5_isClerk : GoodIn wsX5_lay wsX5_isClerk := goodIn_r _ [9, 1, 10, 40, 41, 42, 43, 44, 45, 46, 47, 48, 49, 50, 51, 52, 53, 54, 55, 56, 57, 58, 59, 60] (by decide +kernel) (by decide +kernel)
set_option maxRecDepth 20000 in
theorem gX5_lay_X5_isClerk : GoodIn wsX5_lay (wsV RX5 68 RX5 yX5_isClerk wsX5_isClerk) := goodIn_app (goodIn_of _ (by decide +kernel)) ggX5_lay_X5_isClerk
set_option maxRecDepth 20000 in
theorem ggX5_lay_X1_isSmoking : GoodIn wsX5_lay wsX1_isSmoking := goodIn_r _ [15, 16, 49, 50, 51, 52, 53, 54, 55, 56, 57, 58, 59, 60] (by decide +kernel) (by decide +kernel)
set_option maxRecDepth 20000 in
theorem gX5_lay_X1_isSmoking : GoodIn wsX5_lay (wsV RX5 84 RX1 yX1_isSmoking wsX1_isSmoking) := goodIn_app (goodIn_of _ (by decide +kernel)) ggX5_lay_X1_isSmoking
set_option maxRecDepth 20000 in
theorem ggX5_lay_X0_note : GoodIn wsX5_lay wsX0_note := goodIn_r _ [21, 22, 23, 24, 25, 26, 27, 28, 29, 30, 31, 32, 33, 34, 35, 36, 37, 38, 39, 49, 50, 51, 52, 53, 54, 55, 56, 57, 58, 59, 60, 61, 62, 63, 64, 65, 66] (by decide +kernel) (by decide +kernel)
set_option maxRecDepth 20000 in
theorem gX5_lay_X0_note : GoodIn wsX5_lay (wsV RX5 133 RX0 yX0_note wsX0_note) := goodIn_app (goodIn_of _ (by decide +kernel)) ggX5_lay_X0_note
theorem dX5_lay_0 : decode cX5_lay 0 = .ok (.aload_n 0, 1) := by decide +kernel
theorem dX5_lay_1 : decode cX5_lay 1 = .ok (.iload_n 1, 1) := by decide +kernel
theorem dX5_lay_2 : decode cX5_lay 2 = .ok (.invokevirtual 68, 3) := by decide +kernel
theorem dX5_lay_5 : decode cX5_lay 5 = .ok (.ifCond .ne 5, 3) := by decide +kernel
theorem dX5_lay_8 : decode cX5_lay 8 = .ok (.iconst (-1), 1) := by decide +kernel
theorem dX5_lay_9 : decode cX5_lay 9 = .ok (.ireturn, 1) := by decide +kernel
theorem dX5_lay_10 : decode cX5_lay 10 = .ok (.aload_n 0, 1) := by decide +kernel
theorem dX5_lay_11 : decode cX5_lay 11 = .ok (.getfield 10, 3) := by decide +kernel
theorem dX5_lay_14 : decode cX5_lay 14 = .ok (.iload_n 1, 1) := by decide +kernel
theorem dX5_lay_15 : decode cX5_lay 15 = .ok (.invokevirtual 84, 3) := by decide +kernel
theorem dX5_lay_18 : decode cX5_lay 18 = .ok (.ifCond .ne 6, 3) := by decide +kernel
theorem dX5_lay_21 : decode cX5_lay 21 = .ok (.bipush (-2), 2) := by decide +kernel
theorem dX5_lay_23 : decode cX5_lay 23 = .ok (.ireturn, 1) := by decide +kernel
theorem dX5_lay_24 : decode cX5_lay 24 = .ok (.aload_n 0, 1) := by decide +kernel
theorem dX5_lay_25 : decode cX5_lay 25 = .ok (.getfield 22, 3) := by decide +kernel
theorem dX5_lay_28 : decode cX5_lay 28 = .ok (.aload_n 0, 1) := by decide +kernel
theorem dX5_lay_29 : decode cX5_lay 29 = .ok (.getfield 10, 3) := by decide +kernel
theorem dX5_lay_32 : decode cX5_lay 32 = .ok (.invokevirtual 133, 3) := by decide +kernel
theorem dX5_lay_35 : decode cX5_lay 35 = .ok (.aload_n 0, 1) := by decide +kernel
theorem dX5_lay_36 : decode cX5_lay 36 = .ok (.getfield 10, 3) := by decide +kernel
theorem dX5_lay_39 : decode cX5_lay 39 = .ok (.dup, 1) := by decide +kernel
theorem dX5_lay_40 : decode cX5_lay 40 = .ok (.getfield 121, 3) := by decide +kernel
theorem dX5_lay_43 : decode cX5_lay 43 = .ok (.iconst 1, 1) := by decide +kernel
theorem dX5_lay_44 : decode cX5_lay 44 = .ok (.iload_n 1, 1) := by decide +kernel
theorem dX5_lay_45 : decode cX5_lay 45 = .ok (.ishl, 1) := by decide +kernel
theorem dX5_lay_46 : decode cX5_lay 46 = .ok (.iconst (-1), 1) := by decide +kernel
theorem dX5_lay_47 : decode cX5_lay 47 = .ok (.ixor, 1) := by decide +kernel
theorem dX5_lay_48 : decode cX5_lay 48 = .ok (.iand, 1) := by decide +kernel
theorem dX5_lay_49 : decode cX5_lay 49 = .ok (.putfield 121, 3) := by decide +kernel
theorem dX5_lay_52 : decode cX5_lay 52 = .ok (.aload_n 0, 1) := by decide +kernel
theorem dX5_lay_53 : decode cX5_lay 53 = .ok (.getfield 10, 3) := by decide +kernel
theorem dX5_lay_56 : decode cX5_lay 56 = .ok (.getfield 81, 3) := by decide +kernel
theorem dX5_lay_59 : decode cX5_lay 59 = .ok (.iload_n 1, 1) := by decide +kernel
theorem dX5_lay_60 : decode cX5_lay 60 = .ok (.iaload, 1) := by decide +kernel
theorem dX5_lay_61 : decode cX5_lay 61 = .ok (.ireturn, 1) := by decide +kernel
set_option maxRecDepth 20000 in
theorem ggX5_light_X5_isClerk : GoodIn wsX5_light wsX5_isClerk := goodIn_r _ [9, 1, 10, 40, 41, 42, 43, 44, 45, 46, 47, 48, 49, 50, 51, 52, 53, 54, 55, 56, 57, 58, 59, 60] (by decide +kernel) (by decide +kernel)
set_option maxRecDepth 20000 in
theorem gX5_light_X5_isClerk : GoodIn wsX5_light (wsV RX5 68 RX5 yX5_isClerk wsX5_isClerk) := goodIn_app (goodIn_of _ (by decide +kernel)) ggX5_light_X5_isClerk
set_option maxRecDepth 20000 in
theorem ggX5_light_X1_isSmoking : GoodIn wsX5_light wsX1_isSmoking := goodIn_r _ [15, 16, 49, 50, 51, 52, 53, 54, 55, 56, 57, 58, 59, 60] (by decide +kernel) (by decide +kernel)
set_option maxRecDepth 20000 in
theorem gX5_light_X1_isSmoking : GoodIn wsX5_light (wsV RX5 84 RX1 yX1_isSmoking wsX1_isSmoking) := goodIn_app (goodIn_of _ (by decide +kernel)) ggX5_light_X1_isSmoking
set_option maxRecDepth 20000 in
theorem ggX5_light_X0_note : GoodIn wsX5_light wsX0_note := goodIn_r _ [21, 22, 23, 24, 25, 26, 27, 28, 29, 30, 31, 32, 33, 34, 35, 36, 37, 38, 39, 49, 50, 51, 52, 53, 54, 55, 56, 57, 58, 59, 60, 61, 62, 63, 64, 65, 66] (by decide +kernel) (by decide +kernel)
set_option maxRecDepth 20000 in
theorem gX5_light_X0_note : GoodIn wsX5_light (wsV RX5 133 RX0 yX0_note wsX0_note) := goodIn_app (goodIn_of _ (by decide +kernel)) ggX5_light_X0_note
theorem dX5_light_0 : decode cX5_light 0 = .ok (.aload_n 0, 1) := by decide +kernel
theorem dX5_light_1 : decode cX5_light 1 = .ok (.iload_n 1, 1) := by decide +kernel
theorem dX5_light_2 : decode cX5_light 2 = .ok (.invokevirtual 68, 3) := by decide +kernel
theorem dX5_light_5 : decode cX5_light 5 = .ok (.ifCond .ne 5, 3) := by decide +kernel
theorem dX5_light_8 : decode cX5_light 8 = .ok (.iconst (-1), 1) := by decide +kernel
theorem dX5_light_9 : decode cX5_light 9 = .ok (.ireturn, 1) := by decide +kernel
theorem dX5_light_10 : decode cX5_light 10 = .ok (.aload_n 0, 1) := by decide +kernel
theorem dX5_light_11 : decode cX5_light 11 = .ok (.getfield 10, 3) := by decide +kernel
theorem dX5_light_14 : decode cX5_light 14 = .ok (.iload_n 1, 1) := by decide +kernel
theorem dX5_light_15 : decode cX5_light 15 = .ok (.invokevirtual 84, 3) := by decide +kernel
theorem dX5_light_18 : decode cX5_light 18 = .ok (.ifCond .eq 6, 3) := by decide +kernel
theorem dX5_light_21 : decode cX5_light 21 = .ok (.bipush (-2), 2) := by decide +kernel
theorem dX5_light_23 : decode cX5_light 23 = .ok (.ireturn, 1) := by decide +kernel
theorem dX5_light_24 : decode cX5_light 24 = .ok (.aload_n 0, 1) := by decide +kernel
theorem dX5_light_25 : decode cX5_light 25 = .ok (.getfield 22, 3) := by decide +kernel
theorem dX5_light_28 : decode cX5_light 28 = .ok (.aload_n 0, 1) := by decide +kernel
theorem dX5_light_29 : decode cX5_light 29 = .ok (.getfield 10, 3) := by decide +kernel
theorem dX5_light_32 : decode cX5_light 32 = .ok (.invokevirtual 133, 3) := by decide +kernel
theorem dX5_light_35 : decode cX5_light 35 = .ok (.aload_n 0, 1) := by decide +kernel
theorem dX5_light_36 : decode cX5_light 36 = .ok (.getfield 10, 3) := by decide +kernel
theorem dX5_light_39 : decode cX5_light 39 = .ok (.dup, 1) := by decide +kernel
theorem dX5_light_40 : decode cX5_light 40 = .ok (.getfield 121, 3) := by decide +kernel
theorem dX5_light_43 : decode cX5_light 43 = .ok (.iconst 1, 1) := by decide +kernel
theorem dX5_light_44 : decode cX5_light 44 = .ok (.iload_n 1, 1) := by decide +kernel
theorem dX5_light_45 : decode cX5_light 45 = .ok (.ishl, 1) := by decide +kernel
theorem dX5_light_46 : decode cX5_light 46 = .ok (.ior, 1) := by decide +kernel
theorem dX5_light_47 : decode cX5_light 47 = .ok (.putfield 121, 3) := by decide +kernel
theorem dX5_light_50 : decode cX5_light 50 = .ok (.aload_n 0, 1) := by decide +kernel
theorem dX5_light_51 : decode cX5_light 51 = .ok (.getfield 10, 3) := by decide +kernel
theorem dX5_light_54 : decode cX5_light 54 = .ok (.getfield 81, 3) := by decide +kernel
theorem dX5_light_57 : decode cX5_light 57 = .ok (.iload_n 1, 1) := by decide +kernel
theorem dX5_light_58 : decode cX5_light 58 = .ok (.iaload, 1) := by decide +kernel
theorem dX5_light_59 : decode cX5_light 59 = .ok (.ireturn, 1) := by decide +kernel
set_option maxRecDepth 20000 in
theorem ggX5_drift_X5_refusalOfMinutes : GoodIn wsX5_drift wsX5_refusalOfMinutes := goodIn_r _ [7, 2, 8, 82, 83, 84, 85, 86, 87, 88, 89, 90, 91, 92, 93, 94, 95, 96, 97, 98, 99, 100, 101, 102] (by decide +kernel) (by decide +kernel)
set_option maxRecDepth 20000 in
theorem gX5_drift_X5_refusalOfMinutes : GoodIn wsX5_drift (wsV RX5 130 RX5 yX5_refusalOfMinutes wsX5_refusalOfMinutes) := goodIn_app (goodIn_of _ (by decide +kernel)) ggX5_drift_X5_refusalOfMinutes
set_option maxRecDepth 20000 in
theorem ggX5_drift_X0_note : GoodIn wsX5_drift wsX0_note := goodIn_r _ [13, 14, 15, 16, 17, 18, 19, 20, 21, 22, 23, 24, 25, 26, 27, 28, 29, 30, 31, 91, 92, 93, 94, 95, 96, 97, 98, 99, 100, 101, 102, 103, 104, 105, 106, 107, 108] (by decide +kernel) (by decide +kernel)
set_option maxRecDepth 20000 in
theorem gX5_drift_X0_note : GoodIn wsX5_drift (wsV RX5 133 RX0 yX0_note wsX0_note) := goodIn_app (goodIn_of _ (by decide +kernel)) ggX5_drift_X0_note
set_option maxRecDepth 20000 in
theorem ggX5_drift_X1_grow : GoodIn wsX5_drift wsX1_grow := goodIn_r _ [36, 37, 38, 39, 40, 41, 42, 43, 35, 44, 45, 91, 92, 93, 94, 95, 96, 97, 98, 99, 100, 101, 102] (by decide +kernel) (by decide +kernel)
set_option maxRecDepth 20000 in
theorem gX5_drift_X1_grow : GoodIn wsX5_drift (wsV RX5 136 RX1 yX1_grow wsX1_grow) := goodIn_app (goodIn_of _ (by decide +kernel)) ggX5_drift_X1_grow
set_option maxRecDepth 20000 in
theorem ggX5_drift_X1_joltByDraw : GoodIn wsX5_drift wsX1_joltByDraw := goodIn_r _ [49, 50, 51, 52, 53, 54, 55, 56, 35, 57, 58, 59, 60, 61, 62, 63, 64, 65, 37, 66, 67, 30, 68, 69, 70, 71, 40, 72, 73, 74, 75, 76, 38, 39, 41, 42, 43, 44, 45, 91, 92, 93, 94, 95, 96, 97, 98, 99, 100, 101, 102] (by decide +kernel) (by decide +kernel)
set_option maxRecDepth 20000 in
theorem gX5_drift_X1_joltByDraw : GoodIn wsX5_drift (wsV RX5 146 RX1 yX1_joltByDraw wsX1_joltByDraw) := goodIn_app (goodIn_of _ (by decide +kernel)) ggX5_drift_X1_joltByDraw
set_option maxRecDepth 20000 in
theorem ggX5_drift_X1_worth : GoodIn wsX5_drift wsX1_worth := goodIn_r _ [80, 37, 40, 81, 91, 92, 93, 94, 95, 96, 97, 98, 99, 100, 101, 102] (by decide +kernel) (by decide +kernel)
set_option maxRecDepth 20000 in
theorem gX5_drift_X1_worth : GoodIn wsX5_drift (wsV RX5 117 RX1 yX1_worth wsX1_worth) := goodIn_app (goodIn_of _ (by decide +kernel)) ggX5_drift_X1_worth
theorem dX5_drift_0 : decode cX5_drift 0 = .ok (.aload_n 0, 1) := by decide +kernel
theorem dX5_drift_1 : decode cX5_drift 1 = .ok (.iload_n 1, 1) := by decide +kernel
theorem dX5_drift_2 : decode cX5_drift 2 = .ok (.invokevirtual 130, 3) := by decide +kernel
theorem dX5_drift_5 : decode cX5_drift 5 = .ok (.istore_n 2, 1) := by decide +kernel
theorem dX5_drift_6 : decode cX5_drift 6 = .ok (.iload_n 2, 1) := by decide +kernel
theorem dX5_drift_7 : decode cX5_drift 7 = .ok (.ifCond .eq 5, 3) := by decide +kernel
theorem dX5_drift_10 : decode cX5_drift 10 = .ok (.iload_n 2, 1) := by decide +kernel
theorem dX5_drift_11 : decode cX5_drift 11 = .ok (.ireturn, 1) := by decide +kernel
theorem dX5_drift_12 : decode cX5_drift 12 = .ok (.iconst 0, 1) := by decide +kernel
theorem dX5_drift_13 : decode cX5_drift 13 = .ok (.istore_n 3, 1) := by decide +kernel
theorem dX5_drift_14 : decode cX5_drift 14 = .ok (.iload_n 3, 1) := by decide +kernel
theorem dX5_drift_15 : decode cX5_drift 15 = .ok (.iload_n 1, 1) := by decide +kernel
theorem dX5_drift_16 : decode cX5_drift 16 = .ok (.if_icmp .ge 34, 3) := by decide +kernel
theorem dX5_drift_19 : decode cX5_drift 19 = .ok (.aload_n 0, 1) := by decide +kernel
theorem dX5_drift_20 : decode cX5_drift 20 = .ok (.getfield 22, 3) := by decide +kernel
theorem dX5_drift_23 : decode cX5_drift 23 = .ok (.aload_n 0, 1) := by decide +kernel
theorem dX5_drift_24 : decode cX5_drift 24 = .ok (.getfield 10, 3) := by decide +kernel
theorem dX5_drift_27 : decode cX5_drift 27 = .ok (.invokevirtual 133, 3) := by decide +kernel
theorem dX5_drift_30 : decode cX5_drift 30 = .ok (.aload_n 0, 1) := by decide +kernel
theorem dX5_drift_31 : decode cX5_drift 31 = .ok (.getfield 10, 3) := by decide +kernel
theorem dX5_drift_34 : decode cX5_drift 34 = .ok (.invokevirtual 136, 3) := by decide +kernel
theorem dX5_drift_37 : decode cX5_drift 37 = .ok (.aload_n 0, 1) := by decide +kernel
theorem dX5_drift_38 : decode cX5_drift 38 = .ok (.getfield 10, 3) := by decide +kernel
theorem dX5_drift_41 : decode cX5_drift 41 = .ok (.invokevirtual 146, 3) := by decide +kernel
theorem dX5_drift_44 : decode cX5_drift 44 = .ok (.iinc 3 1, 3) := by decide +kernel
theorem dX5_drift_47 : decode cX5_drift 47 = .ok (.goto (-33), 3) := by decide +kernel
theorem dX5_drift_50 : decode cX5_drift 50 = .ok (.aload_n 0, 1) := by decide +kernel
theorem dX5_drift_51 : decode cX5_drift 51 = .ok (.getfield 10, 3) := by decide +kernel
theorem dX5_drift_54 : decode cX5_drift 54 = .ok (.invokevirtual 117, 3) := by decide +kernel
theorem dX5_drift_57 : decode cX5_drift 57 = .ok (.ireturn, 1) := by decide +kernel
set_option maxRecDepth 20000 in
theorem ggX5_undo_X0_giveBack : GoodIn wsX5_undo wsX0_giveBack := goodIn_r _ [8, 9, 10, 11, 12, 13, 14, 15, 16, 17, 18, 19, 20, 21, 22, 32, 33, 34, 35, 36, 37, 38, 39, 40, 41, 42, 43, 44, 45, 46, 47, 48, 49] (by decide +kernel) (by decide +kernel)
set_option maxRecDepth 20000 in
theorem gX5_undo_X0_giveBack : GoodIn wsX5_undo (wsV RX5 149 RX0 yX0_giveBack wsX0_giveBack) := goodIn_app (goodIn_of _ (by decide +kernel)) ggX5_undo_X0_giveBack
theorem dX5_undo_0 : decode cX5_undo 0 = .ok (.aload_n 0, 1) := by decide +kernel
theorem dX5_undo_1 : decode cX5_undo 1 = .ok (.getfield 22, 3) := by decide +kernel
theorem dX5_undo_4 : decode cX5_undo 4 = .ok (.getfield 127, 3) := by decide +kernel
theorem dX5_undo_7 : decode cX5_undo 7 = .ok (.ifCond .ne 6, 3) := by decide +kernel
theorem dX5_undo_10 : decode cX5_undo 10 = .ok (.bipush (-4), 2) := by decide +kernel
theorem dX5_undo_12 : decode cX5_undo 12 = .ok (.ireturn, 1) := by decide +kernel
theorem dX5_undo_13 : decode cX5_undo 13 = .ok (.aload_n 0, 1) := by decide +kernel
theorem dX5_undo_14 : decode cX5_undo 14 = .ok (.getfield 22, 3) := by decide +kernel
theorem dX5_undo_17 : decode cX5_undo 17 = .ok (.aload_n 0, 1) := by decide +kernel
theorem dX5_undo_18 : decode cX5_undo 18 = .ok (.getfield 10, 3) := by decide +kernel
theorem dX5_undo_21 : decode cX5_undo 21 = .ok (.invokevirtual 149, 3) := by decide +kernel
theorem dX5_undo_24 : decode cX5_undo 24 = .ok (.aload_n 0, 1) := by decide +kernel
theorem dX5_undo_25 : decode cX5_undo 25 = .ok (.getfield 22, 3) := by decide +kernel
theorem dX5_undo_28 : decode cX5_undo 28 = .ok (.getfield 127, 3) := by decide +kernel
theorem dX5_undo_31 : decode cX5_undo 31 = .ok (.ireturn, 1) := by decide +kernel
theorem dX5_seed_0 : decode cX5_seed 0 = .ok (.iload_n 1, 1) := by decide +kernel
theorem dX5_seed_1 : decode cX5_seed 1 = .ok (.ifCond .ge 5, 3) := by decide +kernel
theorem dX5_seed_4 : decode cX5_seed 4 = .ok (.iconst (-1), 1) := by decide +kernel
theorem dX5_seed_5 : decode cX5_seed 5 = .ok (.ireturn, 1) := by decide +kernel
theorem dX5_seed_6 : decode cX5_seed 6 = .ok (.aload_n 0, 1) := by decide +kernel
theorem dX5_seed_7 : decode cX5_seed 7 = .ok (.getfield 10, 3) := by decide +kernel
theorem dX5_seed_10 : decode cX5_seed 10 = .ok (.getfield 107, 3) := by decide +kernel
theorem dX5_seed_13 : decode cX5_seed 13 = .ok (.istore_n 2, 1) := by decide +kernel
theorem dX5_seed_14 : decode cX5_seed 14 = .ok (.aload_n 0, 1) := by decide +kernel
theorem dX5_seed_15 : decode cX5_seed 15 = .ok (.getfield 10, 3) := by decide +kernel
theorem dX5_seed_18 : decode cX5_seed 18 = .ok (.iload_n 1, 1) := by decide +kernel
theorem dX5_seed_19 : decode cX5_seed 19 = .ok (.putfield 107, 3) := by decide +kernel
theorem dX5_seed_22 : decode cX5_seed 22 = .ok (.iload_n 2, 1) := by decide +kernel
theorem dX5_seed_23 : decode cX5_seed 23 = .ok (.ireturn, 1) := by decide +kernel
set_option maxRecDepth 20000 in
theorem ggX5_ahead_X5_isClerk : GoodIn wsX5_ahead wsX5_isClerk := goodIn_r _ [7, 8, 9, 44, 45, 46, 47, 48, 49, 50, 51, 52, 53, 54, 55, 56, 57, 58, 59, 60, 61, 62, 63, 64] (by decide +kernel) (by decide +kernel)
set_option maxRecDepth 20000 in
theorem gX5_ahead_X5_isClerk : GoodIn wsX5_ahead (wsV RX5 68 RX5 yX5_isClerk wsX5_isClerk) := goodIn_app (goodIn_of _ (by decide +kernel)) ggX5_ahead_X5_isClerk
set_option maxRecDepth 20000 in
theorem ggX5_ahead_X5_isAhead : GoodIn wsX5_ahead wsX5_isAhead := goodIn_r _ [12] (by decide +kernel) (by decide +kernel)
set_option maxRecDepth 20000 in
theorem gX5_ahead_X5_isAhead : GoodIn wsX5_ahead (va_wsS RX5 152 yX5_isAhead wsX5_isAhead) := goodIn_app (goodIn_of _ (by decide +kernel)) ggX5_ahead_X5_isAhead
set_option maxRecDepth 20000 in
theorem ggX5_ahead_X5_growTrial : GoodIn wsX5_ahead wsX5_growTrial := goodIn_r _ [16, 1, 8, 17, 18, 19, 20, 21, 22, 23, 24, 25, 26, 27, 28, 29, 30, 31, 32, 33, 34, 35, 36, 37, 38, 39, 40, 41, 42, 43, 44, 45, 46, 47, 48, 49, 50, 51, 52, 53, 54, 55, 56, 57, 58, 59, 60, 61, 62, 63, 64] (by decide +kernel) (by decide +kernel)
set_option maxRecDepth 20000 in
theorem gX5_ahead_X5_growTrial : GoodIn wsX5_ahead (wsV RX5 155 RX5 yX5_growTrial wsX5_growTrial) := goodIn_app (goodIn_of _ (by decide +kernel)) ggX5_ahead_X5_growTrial
theorem dX5_ahead_0 : decode cX5_ahead 0 = .ok (.aload_n 0, 1) := by decide +kernel
theorem dX5_ahead_1 : decode cX5_ahead 1 = .ok (.iload_n 1, 1) := by decide +kernel
theorem dX5_ahead_2 : decode cX5_ahead 2 = .ok (.invokevirtual 68, 3) := by decide +kernel
theorem dX5_ahead_5 : decode cX5_ahead 5 = .ok (.ifCond .eq 10, 3) := by decide +kernel
theorem dX5_ahead_8 : decode cX5_ahead 8 = .ok (.iload_n 2, 1) := by decide +kernel
theorem dX5_ahead_9 : decode cX5_ahead 9 = .ok (.invokestatic 152, 3) := by decide +kernel
theorem dX5_ahead_12 : decode cX5_ahead 12 = .ok (.ifCond .ne 5, 3) := by decide +kernel
theorem dX5_ahead_15 : decode cX5_ahead 15 = .ok (.iconst (-1), 1) := by decide +kernel
theorem dX5_ahead_16 : decode cX5_ahead 16 = .ok (.ireturn, 1) := by decide +kernel
theorem dX5_ahead_17 : decode cX5_ahead 17 = .ok (.aload_n 0, 1) := by decide +kernel
theorem dX5_ahead_18 : decode cX5_ahead 18 = .ok (.iload_n 2, 1) := by decide +kernel
theorem dX5_ahead_19 : decode cX5_ahead 19 = .ok (.invokevirtual 155, 3) := by decide +kernel
theorem dX5_ahead_22 : decode cX5_ahead 22 = .ok (.aload_n 0, 1) := by decide +kernel
theorem dX5_ahead_23 : decode cX5_ahead 23 = .ok (.getfield 16, 3) := by decide +kernel
theorem dX5_ahead_26 : decode cX5_ahead 26 = .ok (.getfield 81, 3) := by decide +kernel
theorem dX5_ahead_29 : decode cX5_ahead 29 = .ok (.iload_n 1, 1) := by decide +kernel
theorem dX5_ahead_30 : decode cX5_ahead 30 = .ok (.iaload, 1) := by decide +kernel
theorem dX5_ahead_31 : decode cX5_ahead 31 = .ok (.ireturn, 1) := by decide +kernel
set_option maxRecDepth 20000 in
theorem ggX5_pay_X5_isAhead : GoodIn wsX5_pay wsX5_isAhead := goodIn_r _ [5] (by decide +kernel) (by decide +kernel)
set_option maxRecDepth 20000 in
theorem gX5_pay_X5_isAhead : GoodIn wsX5_pay (va_wsS RX5 152 yX5_isAhead wsX5_isAhead) := goodIn_app (goodIn_of _ (by decide +kernel)) ggX5_pay_X5_isAhead
set_option maxRecDepth 20000 in
theorem ggX5_pay_X5_growTrial : GoodIn wsX5_pay wsX5_growTrial := goodIn_r _ [9, 1, 10, 11, 12, 13, 14, 15, 16, 17, 18, 19, 20, 21, 22, 23, 24, 25, 26, 27, 28, 29, 30, 31, 32, 33, 34, 35, 36, 37, 42, 43, 44, 45, 46, 47, 48, 49, 50, 51, 52, 53, 54, 55, 56, 57, 58, 59, 60, 61, 62] (by decide +kernel) (by decide +kernel)
set_option maxRecDepth 20000 in
theorem gX5_pay_X5_growTrial : GoodIn wsX5_pay (wsV RX5 155 RX5 yX5_growTrial wsX5_growTrial) := goodIn_app (goodIn_of _ (by decide +kernel)) ggX5_pay_X5_growTrial
set_option maxRecDepth 20000 in
theorem ggX5_pay_X1_worth : GoodIn wsX5_pay wsX1_worth := goodIn_r _ [41, 24, 23, 26, 51, 52, 53, 54, 55, 56, 57, 58, 59, 60, 61, 62] (by decide +kernel) (by decide +kernel)
set_option maxRecDepth 20000 in
theorem gX5_pay_X1_worth : GoodIn wsX5_pay (wsV RX5 117 RX1 yX1_worth wsX1_worth) := goodIn_app (goodIn_of _ (by decide +kernel)) ggX5_pay_X1_worth
theorem dX5_pay_0 : decode cX5_pay 0 = .ok (.iload_n 1, 1) := by decide +kernel
theorem dX5_pay_1 : decode cX5_pay 1 = .ok (.invokestatic 152, 3) := by decide +kernel
theorem dX5_pay_4 : decode cX5_pay 4 = .ok (.ifCond .ne 5, 3) := by decide +kernel
theorem dX5_pay_7 : decode cX5_pay 7 = .ok (.iconst (-1), 1) := by decide +kernel
theorem dX5_pay_8 : decode cX5_pay 8 = .ok (.ireturn, 1) := by decide +kernel
theorem dX5_pay_9 : decode cX5_pay 9 = .ok (.aload_n 0, 1) := by decide +kernel
theorem dX5_pay_10 : decode cX5_pay 10 = .ok (.iload_n 1, 1) := by decide +kernel
theorem dX5_pay_11 : decode cX5_pay 11 = .ok (.invokevirtual 155, 3) := by decide +kernel
theorem dX5_pay_14 : decode cX5_pay 14 = .ok (.aload_n 0, 1) := by decide +kernel
theorem dX5_pay_15 : decode cX5_pay 15 = .ok (.getfield 16, 3) := by decide +kernel
theorem dX5_pay_18 : decode cX5_pay 18 = .ok (.invokevirtual 117, 3) := by decide +kernel
theorem dX5_pay_21 : decode cX5_pay 21 = .ok (.ireturn, 1) := by decide +kernel
set_option maxRecDepth 20000 in
theorem ggX5_falls_X5_isDesk : GoodIn wsX5_falls wsX5_isDesk := goodIn_r _ [4] (by decide +kernel) (by decide +kernel)
set_option maxRecDepth 20000 in
theorem gX5_falls_X5_isDesk : GoodIn wsX5_falls (va_wsS RX5 53 yX5_isDesk wsX5_isDesk) := goodIn_app (goodIn_of _ (by decide +kernel)) ggX5_falls_X5_isDesk
set_option maxRecDepth 20000 in
theorem ggX5_falls_X5_isForce : GoodIn wsX5_falls wsX5_isForce := goodIn_r _ [7] (by decide +kernel) (by decide +kernel)
set_option maxRecDepth 20000 in
theorem gX5_falls_X5_isForce : GoodIn wsX5_falls (va_wsS RX5 139 yX5_isForce wsX5_isForce) := goodIn_app (goodIn_of _ (by decide +kernel)) ggX5_falls_X5_isForce
set_option maxRecDepth 20000 in
theorem ggX5_falls_X5_isEither : GoodIn wsX5_falls wsX5_isEither := goodIn_r _ [10] (by decide +kernel) (by decide +kernel)
set_option maxRecDepth 20000 in
theorem gX5_falls_X5_isEither : GoodIn wsX5_falls (va_wsS RX5 159 yX5_isEither wsX5_isEither) := goodIn_app (goodIn_of _ (by decide +kernel)) ggX5_falls_X5_isEither
set_option maxRecDepth 20000 in
theorem ggX5_falls_X5_fallenIf : GoodIn wsX5_falls wsX5_fallenIf := goodIn_r _ [14, 15, 16, 17, 18, 19, 20, 21, 22, 23, 24, 25, 26, 27, 28, 29, 30, 31, 32, 33, 34, 35, 36, 37, 38, 39, 40, 41, 42, 43, 44, 45, 46, 47, 48, 49, 50, 51, 52, 53, 54, 55, 56, 57, 58, 59, 60, 69, 70, 71, 72, 73, 74, 75, 76, 77, 78, 79, 80, 81, 82, 83, 84, 85, 86, 87, 88, 89] (by decide +kernel) (by decide +kernel)
set_option maxRecDepth 20000 in
theorem gX5_falls_X5_fallenIf : GoodIn wsX5_falls (wsV RX5 162 RX5 yX5_fallenIf wsX5_fallenIf) := goodIn_app (goodIn_of _ (by decide +kernel)) ggX5_falls_X5_fallenIf
set_option maxRecDepth 20000 in
theorem ggX5_falls_X5_lostInTrial : GoodIn wsX5_falls wsX5_lostInTrial := goodIn_r _ [64, 16, 15, 65, 66, 67, 20, 68, 30, 29, 32, 69, 70, 71, 72, 73, 74, 75, 76, 77, 78, 79, 80, 81, 82, 83, 84, 85, 86, 87, 88, 89] (by decide +kernel) (by decide +kernel)
set_option maxRecDepth 20000 in
theorem gX5_falls_X5_lostInTrial : GoodIn wsX5_falls (wsV RX5 165 RX5 yX5_lostInTrial wsX5_lostInTrial) := goodIn_app (goodIn_of _ (by decide +kernel)) ggX5_falls_X5_lostInTrial
theorem dX5_falls_0 : decode cX5_falls 0 = .ok (.iload_n 1, 1) := by decide +kernel
theorem dX5_falls_1 : decode cX5_falls 1 = .ok (.invokestatic 53, 3) := by decide +kernel
theorem dX5_falls_4 : decode cX5_falls 4 = .ok (.ifCond .eq 17, 3) := by decide +kernel
theorem dX5_falls_7 : decode cX5_falls 7 = .ok (.iload_n 2, 1) := by decide +kernel
theorem dX5_falls_8 : decode cX5_falls 8 = .ok (.invokestatic 139, 3) := by decide +kernel
theorem dX5_falls_11 : decode cX5_falls 11 = .ok (.ifCond .eq 10, 3) := by decide +kernel
theorem dX5_falls_14 : decode cX5_falls 14 = .ok (.iload_n 3, 1) := by decide +kernel
theorem dX5_falls_15 : decode cX5_falls 15 = .ok (.invokestatic 159, 3) := by decide +kernel
theorem dX5_falls_18 : decode cX5_falls 18 = .ok (.ifCond .ne 5, 3) := by decide +kernel
theorem dX5_falls_21 : decode cX5_falls 21 = .ok (.iconst (-1), 1) := by decide +kernel
theorem dX5_falls_22 : decode cX5_falls 22 = .ok (.ireturn, 1) := by decide +kernel
theorem dX5_falls_23 : decode cX5_falls 23 = .ok (.aload_n 0, 1) := by decide +kernel
theorem dX5_falls_24 : decode cX5_falls 24 = .ok (.iload_n 1, 1) := by decide +kernel
theorem dX5_falls_25 : decode cX5_falls 25 = .ok (.iload_n 2, 1) := by decide +kernel
theorem dX5_falls_26 : decode cX5_falls 26 = .ok (.invokevirtual 162, 3) := by decide +kernel
theorem dX5_falls_29 : decode cX5_falls 29 = .ok (.istore 4, 2) := by decide +kernel
theorem dX5_falls_31 : decode cX5_falls 31 = .ok (.iload_n 3, 1) := by decide +kernel
theorem dX5_falls_32 : decode cX5_falls 32 = .ok (.ifCond .ne 8, 3) := by decide +kernel
theorem dX5_falls_35 : decode cX5_falls 35 = .ok (.iload 4, 2) := by decide +kernel
theorem dX5_falls_37 : decode cX5_falls 37 = .ok (.goto 7, 3) := by decide +kernel
theorem dX5_falls_40 : decode cX5_falls 40 = .ok (.aload_n 0, 1) := by decide +kernel
theorem dX5_falls_41 : decode cX5_falls 41 = .ok (.invokevirtual 165, 3) := by decide +kernel
theorem dX5_falls_44 : decode cX5_falls 44 = .ok (.ireturn, 1) := by decide +kernel
set_option maxRecDepth 20000 in
theorem ggX5_worst_X5_isForce : GoodIn wsX5_worst wsX5_isForce := goodIn_r _ [4] (by decide +kernel) (by decide +kernel)
set_option maxRecDepth 20000 in
theorem gX5_worst_X5_isForce : GoodIn wsX5_worst (va_wsS RX5 139 yX5_isForce wsX5_isForce) := goodIn_app (goodIn_of _ (by decide +kernel)) ggX5_worst_X5_isForce
set_option maxRecDepth 20000 in
theorem ggX5_worst_X5_isEither : GoodIn wsX5_worst wsX5_isEither := goodIn_r _ [7] (by decide +kernel) (by decide +kernel)
set_option maxRecDepth 20000 in
theorem gX5_worst_X5_isEither : GoodIn wsX5_worst (va_wsS RX5 159 yX5_isEither wsX5_isEither) := goodIn_app (goodIn_of _ (by decide +kernel)) ggX5_worst_X5_isEither
set_option maxRecDepth 20000 in
theorem ggX5_worst_X5_fallenIf : GoodIn wsX5_worst wsX5_fallenIf := goodIn_r _ [11, 12, 13, 14, 15, 16, 17, 18, 19, 20, 21, 22, 23, 24, 25, 26, 27, 28, 29, 30, 31, 32, 33, 34, 35, 36, 37, 38, 39, 40, 41, 42, 43, 44, 45, 46, 47, 48, 49, 50, 51, 52, 53, 54, 55, 56, 57, 66, 67, 68, 69, 70, 71, 72, 73, 74, 75, 76, 77, 78, 79, 80, 81, 82, 83, 84, 85, 86] (by decide +kernel) (by decide +kernel)
set_option maxRecDepth 20000 in
theorem gX5_worst_X5_fallenIf : GoodIn wsX5_worst (wsV RX5 162 RX5 yX5_fallenIf wsX5_fallenIf) := goodIn_app (goodIn_of _ (by decide +kernel)) ggX5_worst_X5_fallenIf
set_option maxRecDepth 20000 in
theorem ggX5_worst_X5_lostInTrial : GoodIn wsX5_worst wsX5_lostInTrial := goodIn_r _ [61, 13, 12, 62, 63, 64, 17, 65, 27, 26, 29, 66, 67, 68, 69, 70, 71, 72, 73, 74, 75, 76, 77, 78, 79, 80, 81, 82, 83, 84, 85, 86] (by decide +kernel) (by decide +kernel)
set_option maxRecDepth 20000 in
theorem gX5_worst_X5_lostInTrial : GoodIn wsX5_worst (wsV RX5 165 RX5 yX5_lostInTrial wsX5_lostInTrial) := goodIn_app (goodIn_of _ (by decide +kernel)) ggX5_worst_X5_lostInTrial
theorem dX5_worst_0 : decode cX5_worst 0 = .ok (.iload_n 1, 1) := by decide +kernel
theorem dX5_worst_1 : decode cX5_worst 1 = .ok (.invokestatic 139, 3) := by decide +kernel
theorem dX5_worst_4 : decode cX5_worst 4 = .ok (.ifCond .eq 10, 3) := by decide +kernel
theorem dX5_worst_7 : decode cX5_worst 7 = .ok (.iload_n 2, 1) := by decide +kernel
theorem dX5_worst_8 : decode cX5_worst 8 = .ok (.invokestatic 159, 3) := by decide +kernel
theorem dX5_worst_11 : decode cX5_worst 11 = .ok (.ifCond .ne 5, 3) := by decide +kernel
theorem dX5_worst_14 : decode cX5_worst 14 = .ok (.iconst (-1), 1) := by decide +kernel
theorem dX5_worst_15 : decode cX5_worst 15 = .ok (.ireturn, 1) := by decide +kernel
theorem dX5_worst_16 : decode cX5_worst 16 = .ok (.iconst 0, 1) := by decide +kernel
theorem dX5_worst_17 : decode cX5_worst 17 = .ok (.istore_n 3, 1) := by decide +kernel
theorem dX5_worst_18 : decode cX5_worst 18 = .ok (.iconst 0, 1) := by decide +kernel
theorem dX5_worst_19 : decode cX5_worst 19 = .ok (.istore 4, 2) := by decide +kernel
theorem dX5_worst_21 : decode cX5_worst 21 = .ok (.iconst 0, 1) := by decide +kernel
theorem dX5_worst_22 : decode cX5_worst 22 = .ok (.istore 5, 2) := by decide +kernel
theorem dX5_worst_24 : decode cX5_worst 24 = .ok (.iload 5, 2) := by decide +kernel
theorem dX5_worst_26 : decode cX5_worst 26 = .ok (.bipush 10, 2) := by decide +kernel
theorem dX5_worst_28 : decode cX5_worst 28 = .ok (.if_icmp .ge 37, 3) := by decide +kernel
theorem dX5_worst_31 : decode cX5_worst 31 = .ok (.aload_n 0, 1) := by decide +kernel
theorem dX5_worst_32 : decode cX5_worst 32 = .ok (.iload 5, 2) := by decide +kernel
theorem dX5_worst_34 : decode cX5_worst 34 = .ok (.iload_n 1, 1) := by decide +kernel
theorem dX5_worst_35 : decode cX5_worst 35 = .ok (.invokevirtual 162, 3) := by decide +kernel
theorem dX5_worst_38 : decode cX5_worst 38 = .ok (.pop, 1) := by decide +kernel
theorem dX5_worst_39 : decode cX5_worst 39 = .ok (.aload_n 0, 1) := by decide +kernel
theorem dX5_worst_40 : decode cX5_worst 40 = .ok (.invokevirtual 165, 3) := by decide +kernel
theorem dX5_worst_43 : decode cX5_worst 43 = .ok (.istore 6, 2) := by decide +kernel
theorem dX5_worst_45 : decode cX5_worst 45 = .ok (.iload 6, 2) := by decide +kernel
theorem dX5_worst_47 : decode cX5_worst 47 = .ok (.iload 4, 2) := by decide +kernel
theorem dX5_worst_49 : decode cX5_worst 49 = .ok (.if_icmp .le 10, 3) := by decide +kernel
theorem dX5_worst_52 : decode cX5_worst 52 = .ok (.iload 5, 2) := by decide +kernel
theorem dX5_worst_54 : decode cX5_worst 54 = .ok (.istore_n 3, 1) := by decide +kernel
theorem dX5_worst_55 : decode cX5_worst 55 = .ok (.iload 6, 2) := by decide +kernel
theorem dX5_worst_57 : decode cX5_worst 57 = .ok (.istore 4, 2) := by decide +kernel
theorem dX5_worst_59 : decode cX5_worst 59 = .ok (.iinc 5 1, 3) := by decide +kernel
theorem dX5_worst_62 : decode cX5_worst 62 = .ok (.goto (-38), 3) := by decide +kernel
theorem dX5_worst_65 : decode cX5_worst 65 = .ok (.iload_n 2, 1) := by decide +kernel
theorem dX5_worst_66 : decode cX5_worst 66 = .ok (.ifCond .ne 7, 3) := by decide +kernel
theorem dX5_worst_69 : decode cX5_worst 69 = .ok (.iload_n 3, 1) := by decide +kernel
theorem dX5_worst_70 : decode cX5_worst 70 = .ok (.goto 5, 3) := by decide +kernel
theorem dX5_worst_73 : decode cX5_worst 73 = .ok (.iload 4, 2) := by decide +kernel
theorem dX5_worst_75 : decode cX5_worst 75 = .ok (.ireturn, 1) := by decide +kernel
set_option maxRecDepth 20000 in
theorem ggX5_enough_X5_isDesk : GoodIn wsX5_enough wsX5_isDesk := goodIn_r _ [4] (by decide +kernel) (by decide +kernel)
set_option maxRecDepth 20000 in
theorem gX5_enough_X5_isDesk : GoodIn wsX5_enough (va_wsS RX5 53 yX5_isDesk wsX5_isDesk) := goodIn_app (goodIn_of _ (by decide +kernel)) ggX5_enough_X5_isDesk
set_option maxRecDepth 20000 in
theorem ggX5_enough_X5_fallenIf : GoodIn wsX5_enough wsX5_fallenIf := goodIn_r _ [8, 9, 10, 11, 12, 13, 14, 15, 16, 17, 18, 19, 20, 21, 22, 23, 24, 25, 26, 27, 28, 29, 30, 31, 32, 33, 34, 35, 36, 37, 38, 39, 40, 41, 42, 43, 44, 45, 46, 47, 48, 49, 50, 51, 52, 53, 54, 62, 63, 64, 65, 66, 67, 68, 69, 70, 71, 72, 73, 74, 75, 76, 77, 78, 79, 80, 81, 82] (by decide +kernel) (by decide +kernel)
set_option maxRecDepth 20000 in
theorem gX5_enough_X5_fallenIf : GoodIn wsX5_enough (wsV RX5 162 RX5 yX5_fallenIf wsX5_fallenIf) := goodIn_app (goodIn_of _ (by decide +kernel)) ggX5_enough_X5_fallenIf
set_option maxRecDepth 20000 in
theorem ggX5_enough_J6_bitCount_0f7a4 : GoodIn wsX5_enough wsJ6_bitCount_0f7a4 := goodIn_r _ [58, 59, 60, 61] (by decide +kernel) (by decide +kernel)
set_option maxRecDepth 20000 in
theorem gX5_enough_J6_bitCount_0f7a4 : GoodIn wsX5_enough (va_wsS RX5 168 yJ6_bitCount_0f7a4 wsJ6_bitCount_0f7a4) := goodIn_app (goodIn_of _ (by decide +kernel)) ggX5_enough_J6_bitCount_0f7a4
theorem dX5_enough_0 : decode cX5_enough 0 = .ok (.iload_n 1, 1) := by decide +kernel
theorem dX5_enough_1 : decode cX5_enough 1 = .ok (.invokestatic 53, 3) := by decide +kernel
theorem dX5_enough_4 : decode cX5_enough 4 = .ok (.ifCond .eq 14, 3) := by decide +kernel
theorem dX5_enough_7 : decode cX5_enough 7 = .ok (.iload_n 2, 1) := by decide +kernel
theorem dX5_enough_8 : decode cX5_enough 8 = .ok (.iconst 1, 1) := by decide +kernel
theorem dX5_enough_9 : decode cX5_enough 9 = .ok (.if_icmp .lt 9, 3) := by decide +kernel
theorem dX5_enough_12 : decode cX5_enough 12 = .ok (.iload_n 2, 1) := by decide +kernel
theorem dX5_enough_13 : decode cX5_enough 13 = .ok (.bipush 6, 2) := by decide +kernel
theorem dX5_enough_15 : decode cX5_enough 15 = .ok (.if_icmp .le 5, 3) := by decide +kernel
theorem dX5_enough_18 : decode cX5_enough 18 = .ok (.iconst (-1), 1) := by decide +kernel
theorem dX5_enough_19 : decode cX5_enough 19 = .ok (.ireturn, 1) := by decide +kernel
theorem dX5_enough_20 : decode cX5_enough 20 = .ok (.iconst 0, 1) := by decide +kernel
theorem dX5_enough_21 : decode cX5_enough 21 = .ok (.istore_n 3, 1) := by decide +kernel
theorem dX5_enough_22 : decode cX5_enough 22 = .ok (.iload_n 3, 1) := by decide +kernel
theorem dX5_enough_23 : decode cX5_enough 23 = .ok (.bipush 99, 2) := by decide +kernel
theorem dX5_enough_25 : decode cX5_enough 25 = .ok (.if_icmp .gt 24, 3) := by decide +kernel
theorem dX5_enough_28 : decode cX5_enough 28 = .ok (.aload_n 0, 1) := by decide +kernel
theorem dX5_enough_29 : decode cX5_enough 29 = .ok (.iload_n 1, 1) := by decide +kernel
theorem dX5_enough_30 : decode cX5_enough 30 = .ok (.iload_n 3, 1) := by decide +kernel
theorem dX5_enough_31 : decode cX5_enough 31 = .ok (.invokevirtual 162, 3) := by decide +kernel
theorem dX5_enough_34 : decode cX5_enough 34 = .ok (.invokestatic 168, 3) := by decide +kernel
theorem dX5_enough_37 : decode cX5_enough 37 = .ok (.iload_n 2, 1) := by decide +kernel
theorem dX5_enough_38 : decode cX5_enough 38 = .ok (.if_icmp .lt 5, 3) := by decide +kernel
theorem dX5_enough_41 : decode cX5_enough 41 = .ok (.iload_n 3, 1) := by decide +kernel
theorem dX5_enough_42 : decode cX5_enough 42 = .ok (.ireturn, 1) := by decide +kernel
theorem dX5_enough_43 : decode cX5_enough 43 = .ok (.iinc 3 1, 3) := by decide +kernel
theorem dX5_enough_46 : decode cX5_enough 46 = .ok (.goto (-24), 3) := by decide +kernel
theorem dX5_enough_49 : decode cX5_enough 49 = .ok (.bipush (-4), 2) := by decide +kernel
theorem dX5_enough_51 : decode cX5_enough 51 = .ok (.ireturn, 1) := by decide +kernel
set_option maxRecDepth 20000 in
theorem ggX5_seats_X5_isDesk : GoodIn wsX5_seats wsX5_isDesk := goodIn_r _ [6] (by decide +kernel) (by decide +kernel)
set_option maxRecDepth 20000 in
theorem gX5_seats_X5_isDesk : GoodIn wsX5_seats (va_wsS RX5 53 yX5_isDesk wsX5_isDesk) := goodIn_app (goodIn_of _ (by decide +kernel)) ggX5_seats_X5_isDesk
set_option maxRecDepth 20000 in
theorem ggX5_seats_X5_isForce : GoodIn wsX5_seats wsX5_isForce := goodIn_r _ [9] (by decide +kernel) (by decide +kernel)
set_option maxRecDepth 20000 in
theorem gX5_seats_X5_isForce : GoodIn wsX5_seats (va_wsS RX5 139 yX5_isForce wsX5_isForce) := goodIn_app (goodIn_of _ (by decide +kernel)) ggX5_seats_X5_isForce
set_option maxRecDepth 20000 in
theorem ggX5_seats_X5_isClerk : GoodIn wsX5_seats wsX5_isClerk := goodIn_r _ [13, 14, 15, 103, 104, 105, 106, 107, 108, 109, 110, 111, 115, 116, 117, 118, 119, 120, 121, 122, 123, 124, 125, 126] (by decide +kernel) (by decide +kernel)
set_option maxRecDepth 20000 in
theorem gX5_seats_X5_isClerk : GoodIn wsX5_seats (wsV RX5 68 RX5 yX5_isClerk wsX5_isClerk) := goodIn_app (goodIn_of _ (by decide +kernel)) ggX5_seats_X5_isClerk
set_option maxRecDepth 20000 in
theorem ggX5_seats_X5_leastLoss : GoodIn wsX5_seats wsX5_leastLoss := goodIn_r _ [19, 1, 14, 15, 20, 21, 22, 23, 24, 25, 26, 27, 28, 29, 30, 31, 32, 33, 5, 34, 35, 36, 37, 38, 39, 40, 41, 42, 43, 44, 45, 46, 47, 48, 49, 50, 51, 52, 53, 54, 55, 56, 57, 58, 59, 60, 61, 62, 63, 64, 65, 66, 67, 68, 69, 70, 71, 72, 73, 74, 75, 76, 77, 78, 79, 80, 81, 82, 83, 84, 85, 86, 87, 88, 89, 90, 91, 92, 93, 94, 95, 96, 97, 98, 99, 100, 101, 102, 103, 104, 105, 106, 107, 108, 109, 110, 111, 115, 116, 117, 118, 119, 120, 121, 122, 123, 124, 125, 126, 112, 113, 114] (by decide +kernel) (by decide +kernel)
set_option maxRecDepth 20000 in
theorem gX5_seats_X5_leastLoss : GoodIn wsX5_seats (wsV RX5 173 RX5 yX5_leastLoss wsX5_leastLoss) := goodIn_app (goodIn_of _ (by decide +kernel)) ggX5_seats_X5_leastLoss
theorem dX5_seats_0 : decode cX5_seats 0 = .ok (.iload_n 1, 1) := by decide +kernel
theorem dX5_seats_1 : decode cX5_seats 1 = .ok (.invokestatic 53, 3) := by decide +kernel
theorem dX5_seats_4 : decode cX5_seats 4 = .ok (.ifCond .eq 24, 3) := by decide +kernel
theorem dX5_seats_7 : decode cX5_seats 7 = .ok (.iload_n 2, 1) := by decide +kernel
theorem dX5_seats_8 : decode cX5_seats 8 = .ok (.invokestatic 139, 3) := by decide +kernel
theorem dX5_seats_11 : decode cX5_seats 11 = .ok (.ifCond .eq 17, 3) := by decide +kernel
theorem dX5_seats_14 : decode cX5_seats 14 = .ok (.iload_n 3, 1) := by decide +kernel
theorem dX5_seats_15 : decode cX5_seats 15 = .ok (.bipush (-4), 2) := by decide +kernel
theorem dX5_seats_17 : decode cX5_seats 17 = .ok (.if_icmp .eq 13, 3) := by decide +kernel
theorem dX5_seats_20 : decode cX5_seats 20 = .ok (.aload_n 0, 1) := by decide +kernel
theorem dX5_seats_21 : decode cX5_seats 21 = .ok (.iload_n 3, 1) := by decide +kernel
theorem dX5_seats_22 : decode cX5_seats 22 = .ok (.invokevirtual 68, 3) := by decide +kernel
theorem dX5_seats_25 : decode cX5_seats 25 = .ok (.ifCond .ne 5, 3) := by decide +kernel
theorem dX5_seats_28 : decode cX5_seats 28 = .ok (.iconst (-1), 1) := by decide +kernel
theorem dX5_seats_29 : decode cX5_seats 29 = .ok (.ireturn, 1) := by decide +kernel
theorem dX5_seats_30 : decode cX5_seats 30 = .ok (.aload_n 0, 1) := by decide +kernel
theorem dX5_seats_31 : decode cX5_seats 31 = .ok (.iload_n 1, 1) := by decide +kernel
theorem dX5_seats_32 : decode cX5_seats 32 = .ok (.iload_n 2, 1) := by decide +kernel
theorem dX5_seats_33 : decode cX5_seats 33 = .ok (.invokevirtual 173, 3) := by decide +kernel
theorem dX5_seats_36 : decode cX5_seats 36 = .ok (.istore 4, 2) := by decide +kernel
theorem dX5_seats_38 : decode cX5_seats 38 = .ok (.iload_n 3, 1) := by decide +kernel
theorem dX5_seats_39 : decode cX5_seats 39 = .ok (.bipush (-4), 2) := by decide +kernel
theorem dX5_seats_41 : decode cX5_seats 41 = .ok (.if_icmp .ne 8, 3) := by decide +kernel
theorem dX5_seats_44 : decode cX5_seats 44 = .ok (.iload 4, 2) := by decide +kernel
theorem dX5_seats_46 : decode cX5_seats 46 = .ok (.goto 12, 3) := by decide +kernel
theorem dX5_seats_49 : decode cX5_seats 49 = .ok (.aload_n 0, 1) := by decide +kernel
theorem dX5_seats_50 : decode cX5_seats 50 = .ok (.getfield 36, 3) := by decide +kernel
theorem dX5_seats_53 : decode cX5_seats 53 = .ok (.getfield 176, 3) := by decide +kernel
theorem dX5_seats_56 : decode cX5_seats 56 = .ok (.iload_n 3, 1) := by decide +kernel
theorem dX5_seats_57 : decode cX5_seats 57 = .ok (.iaload, 1) := by decide +kernel
theorem dX5_seats_58 : decode cX5_seats 58 = .ok (.ireturn, 1) := by decide +kernel
set_option maxRecDepth 20000 in
theorem ggX5_stop_X5_isClerk : GoodIn wsX5_stop wsX5_isClerk := goodIn_r _ [8, 2, 9, 67, 68, 69, 70, 71, 72, 73, 74, 75, 76, 77, 78, 79, 80, 81, 82, 83, 84, 85, 86, 87] (by decide +kernel) (by decide +kernel)
set_option maxRecDepth 20000 in
theorem gX5_stop_X5_isClerk : GoodIn wsX5_stop (wsV RX5 68 RX5 yX5_isClerk wsX5_isClerk) := goodIn_app (goodIn_of _ (by decide +kernel)) ggX5_stop_X5_isClerk
set_option maxRecDepth 20000 in
theorem ggX5_stop_X5_isDesk : GoodIn wsX5_stop wsX5_isDesk := goodIn_r _ [12] (by decide +kernel) (by decide +kernel)
set_option maxRecDepth 20000 in
theorem gX5_stop_X5_isDesk : GoodIn wsX5_stop (va_wsS RX5 53 yX5_isDesk wsX5_isDesk) := goodIn_app (goodIn_of _ (by decide +kernel)) ggX5_stop_X5_isDesk
set_option maxRecDepth 20000 in
theorem ggX5_stop_X5_isForce : GoodIn wsX5_stop wsX5_isForce := goodIn_r _ [15] (by decide +kernel) (by decide +kernel)
set_option maxRecDepth 20000 in
theorem gX5_stop_X5_isForce : GoodIn wsX5_stop (va_wsS RX5 139 yX5_isForce wsX5_isForce) := goodIn_app (goodIn_of _ (by decide +kernel)) ggX5_stop_X5_isForce
set_option maxRecDepth 20000 in
theorem ggX5_stop_X5_isEither : GoodIn wsX5_stop wsX5_isEither := goodIn_r _ [18] (by decide +kernel) (by decide +kernel)
set_option maxRecDepth 20000 in
theorem gX5_stop_X5_isEither : GoodIn wsX5_stop (va_wsS RX5 159 yX5_isEither wsX5_isEither) := goodIn_app (goodIn_of _ (by decide +kernel)) ggX5_stop_X5_isEither
set_option maxRecDepth 20000 in
theorem ggX5_stop_X1_take : GoodIn wsX5_stop wsX1_take := goodIn_r _ [23, 24, 25, 26, 27, 28, 29, 30, 31, 32, 33, 34, 35, 36, 37, 76, 77, 78, 79, 80, 81, 82, 83, 84, 85, 86, 87] (by decide +kernel) (by decide +kernel)
set_option maxRecDepth 20000 in
theorem gX5_stop_X1_take : GoodIn wsX5_stop (wsV RX5 110 RX1 yX1_take wsX1_take) := goodIn_app (goodIn_of _ (by decide +kernel)) ggX5_stop_X1_take
set_option maxRecDepth 20000 in
theorem ggX5_stop_X1_grow : GoodIn wsX5_stop wsX1_grow := goodIn_r _ [41, 32, 24, 36, 31, 42, 43, 44, 22, 45, 33, 76, 77, 78, 79, 80, 81, 82, 83, 84, 85, 86, 87] (by decide +kernel) (by decide +kernel)
set_option maxRecDepth 20000 in
theorem gX5_stop_X1_grow : GoodIn wsX5_stop (wsV RX5 136 RX1 yX1_grow wsX1_grow) := goodIn_app (goodIn_of _ (by decide +kernel)) ggX5_stop_X1_grow
set_option maxRecDepth 20000 in
theorem ggX5_stop_X1_jolt : GoodIn wsX5_stop wsX1_jolt := goodIn_r _ [49, 50, 29, 51, 35, 52, 53, 54, 22, 55, 32, 56, 57, 58, 59, 60, 61, 62, 31, 63, 64, 65, 66, 30, 24, 36, 42, 43, 44, 45, 33, 76, 77, 78, 79, 80, 81, 82, 83, 84, 85, 86, 87] (by decide +kernel) (by decide +kernel)
set_option maxRecDepth 20000 in
theorem gX5_stop_X1_jolt : GoodIn wsX5_stop (wsV RX5 142 RX1 yX1_jolt wsX1_jolt) := goodIn_app (goodIn_of _ (by decide +kernel)) ggX5_stop_X1_jolt
theorem dX5_stop_0 : decode cX5_stop 0 = .ok (.aload_n 0, 1) := by decide +kernel
theorem dX5_stop_1 : decode cX5_stop 1 = .ok (.iload_n 1, 1) := by decide +kernel
theorem dX5_stop_2 : decode cX5_stop 2 = .ok (.invokevirtual 68, 3) := by decide +kernel
theorem dX5_stop_5 : decode cX5_stop 5 = .ok (.ifCond .eq 38, 3) := by decide +kernel
theorem dX5_stop_8 : decode cX5_stop 8 = .ok (.iload_n 2, 1) := by decide +kernel
theorem dX5_stop_9 : decode cX5_stop 9 = .ok (.invokestatic 53, 3) := by decide +kernel
theorem dX5_stop_12 : decode cX5_stop 12 = .ok (.ifCond .eq 31, 3) := by decide +kernel
theorem dX5_stop_15 : decode cX5_stop 15 = .ok (.iload_n 3, 1) := by decide +kernel
theorem dX5_stop_16 : decode cX5_stop 16 = .ok (.invokestatic 139, 3) := by decide +kernel
theorem dX5_stop_19 : decode cX5_stop 19 = .ok (.ifCond .eq 24, 3) := by decide +kernel
theorem dX5_stop_22 : decode cX5_stop 22 = .ok (.iload 4, 2) := by decide +kernel
theorem dX5_stop_24 : decode cX5_stop 24 = .ok (.iconst 1, 1) := by decide +kernel
theorem dX5_stop_25 : decode cX5_stop 25 = .ok (.if_icmp .lt 18, 3) := by decide +kernel
theorem dX5_stop_28 : decode cX5_stop 28 = .ok (.iload 4, 2) := by decide +kernel
theorem dX5_stop_30 : decode cX5_stop 30 = .ok (.bipush 60, 2) := by decide +kernel
theorem dX5_stop_32 : decode cX5_stop 32 = .ok (.if_icmp .gt 11, 3) := by decide +kernel
theorem dX5_stop_35 : decode cX5_stop 35 = .ok (.iload 5, 2) := by decide +kernel
theorem dX5_stop_37 : decode cX5_stop 37 = .ok (.invokestatic 159, 3) := by decide +kernel
theorem dX5_stop_40 : decode cX5_stop 40 = .ok (.ifCond .ne 5, 3) := by decide +kernel
theorem dX5_stop_43 : decode cX5_stop 43 = .ok (.iconst (-1), 1) := by decide +kernel
theorem dX5_stop_44 : decode cX5_stop 44 = .ok (.ireturn, 1) := by decide +kernel
theorem dX5_stop_45 : decode cX5_stop 45 = .ok (.aload_n 0, 1) := by decide +kernel
theorem dX5_stop_46 : decode cX5_stop 46 = .ok (.getfield 16, 3) := by decide +kernel
theorem dX5_stop_49 : decode cX5_stop 49 = .ok (.aload_n 0, 1) := by decide +kernel
theorem dX5_stop_50 : decode cX5_stop 50 = .ok (.getfield 10, 3) := by decide +kernel
theorem dX5_stop_53 : decode cX5_stop 53 = .ok (.invokevirtual 110, 3) := by decide +kernel
theorem dX5_stop_56 : decode cX5_stop 56 = .ok (.aload_n 0, 1) := by decide +kernel
theorem dX5_stop_57 : decode cX5_stop 57 = .ok (.getfield 10, 3) := by decide +kernel
theorem dX5_stop_60 : decode cX5_stop 60 = .ok (.getfield 81, 3) := by decide +kernel
theorem dX5_stop_63 : decode cX5_stop 63 = .ok (.iload_n 1, 1) := by decide +kernel
theorem dX5_stop_64 : decode cX5_stop 64 = .ok (.iaload, 1) := by decide +kernel
theorem dX5_stop_65 : decode cX5_stop 65 = .ok (.istore 6, 2) := by decide +kernel
theorem dX5_stop_67 : decode cX5_stop 67 = .ok (.iconst 0, 1) := by decide +kernel
theorem dX5_stop_68 : decode cX5_stop 68 = .ok (.istore 7, 2) := by decide +kernel
theorem dX5_stop_70 : decode cX5_stop 70 = .ok (.iconst 1, 1) := by decide +kernel
theorem dX5_stop_71 : decode cX5_stop 71 = .ok (.istore 8, 2) := by decide +kernel
theorem dX5_stop_73 : decode cX5_stop 73 = .ok (.iload 8, 2) := by decide +kernel
theorem dX5_stop_75 : decode cX5_stop 75 = .ok (.bipush 60, 2) := by decide +kernel
theorem dX5_stop_77 : decode cX5_stop 77 = .ok (.if_icmp .gt 63, 3) := by decide +kernel
theorem dX5_stop_80 : decode cX5_stop 80 = .ok (.aload_n 0, 1) := by decide +kernel
theorem dX5_stop_81 : decode cX5_stop 81 = .ok (.getfield 16, 3) := by decide +kernel
theorem dX5_stop_84 : decode cX5_stop 84 = .ok (.invokevirtual 136, 3) := by decide +kernel
theorem dX5_stop_87 : decode cX5_stop 87 = .ok (.iload 8, 2) := by decide +kernel
theorem dX5_stop_89 : decode cX5_stop 89 = .ok (.iload 4, 2) := by decide +kernel
theorem dX5_stop_91 : decode cX5_stop 91 = .ok (.irem, 1) := by decide +kernel
theorem dX5_stop_92 : decode cX5_stop 92 = .ok (.ifCond .ne 13, 3) := by decide +kernel
theorem dX5_stop_95 : decode cX5_stop 95 = .ok (.aload_n 0, 1) := by decide +kernel
theorem dX5_stop_96 : decode cX5_stop 96 = .ok (.getfield 16, 3) := by decide +kernel
theorem dX5_stop_99 : decode cX5_stop 99 = .ok (.iload_n 2, 1) := by decide +kernel
theorem dX5_stop_100 : decode cX5_stop 100 = .ok (.iload_n 3, 1) := by decide +kernel
theorem dX5_stop_101 : decode cX5_stop 101 = .ok (.invokevirtual 142, 3) := by decide +kernel
theorem dX5_stop_104 : decode cX5_stop 104 = .ok (.pop, 1) := by decide +kernel
theorem dX5_stop_105 : decode cX5_stop 105 = .ok (.aload_n 0, 1) := by decide +kernel
theorem dX5_stop_106 : decode cX5_stop 106 = .ok (.getfield 16, 3) := by decide +kernel
theorem dX5_stop_109 : decode cX5_stop 109 = .ok (.getfield 81, 3) := by decide +kernel
theorem dX5_stop_112 : decode cX5_stop 112 = .ok (.iload_n 1, 1) := by decide +kernel
theorem dX5_stop_113 : decode cX5_stop 113 = .ok (.iaload, 1) := by decide +kernel
theorem dX5_stop_114 : decode cX5_stop 114 = .ok (.iload 6, 2) := by decide +kernel
theorem dX5_stop_116 : decode cX5_stop 116 = .ok (.if_icmp .le 18, 3) := by decide +kernel
theorem dX5_stop_119 : decode cX5_stop 119 = .ok (.aload_n 0, 1) := by decide +kernel
theorem dX5_stop_120 : decode cX5_stop 120 = .ok (.getfield 16, 3) := by decide +kernel
theorem dX5_stop_123 : decode cX5_stop 123 = .ok (.getfield 81, 3) := by decide +kernel
theorem dX5_stop_126 : decode cX5_stop 126 = .ok (.iload_n 1, 1) := by decide +kernel
theorem dX5_stop_127 : decode cX5_stop 127 = .ok (.iaload, 1) := by decide +kernel
theorem dX5_stop_128 : decode cX5_stop 128 = .ok (.istore 6, 2) := by decide +kernel
theorem dX5_stop_130 : decode cX5_stop 130 = .ok (.iload 8, 2) := by decide +kernel
theorem dX5_stop_132 : decode cX5_stop 132 = .ok (.istore 7, 2) := by decide +kernel
theorem dX5_stop_134 : decode cX5_stop 134 = .ok (.iinc 8 1, 3) := by decide +kernel
theorem dX5_stop_137 : decode cX5_stop 137 = .ok (.goto (-64), 3) := by decide +kernel
theorem dX5_stop_140 : decode cX5_stop 140 = .ok (.iload 5, 2) := by decide +kernel
theorem dX5_stop_142 : decode cX5_stop 142 = .ok (.ifCond .ne 8, 3) := by decide +kernel
theorem dX5_stop_145 : decode cX5_stop 145 = .ok (.iload 7, 2) := by decide +kernel
theorem dX5_stop_147 : decode cX5_stop 147 = .ok (.goto 5, 3) := by decide +kernel
theorem dX5_stop_150 : decode cX5_stop 150 = .ok (.iload 6, 2) := by decide +kernel
theorem dX5_stop_152 : decode cX5_stop 152 = .ok (.ireturn, 1) := by decide +kernel
set_option maxRecDepth 20000 in
theorem ggX5_luck_X5_isClerk : GoodIn wsX5_luck wsX5_isClerk := goodIn_r _ [11, 1, 2, 69, 70, 71, 72, 73, 74, 75, 76, 77, 78, 79, 80, 81, 82, 83, 84, 85, 86, 87, 88, 89] (by decide +kernel) (by decide +kernel)
set_option maxRecDepth 20000 in
theorem gX5_luck_X5_isClerk : GoodIn wsX5_luck (wsV RX5 68 RX5 yX5_isClerk wsX5_isClerk) := goodIn_app (goodIn_of _ (by decide +kernel)) ggX5_luck_X5_isClerk
set_option maxRecDepth 20000 in
theorem ggX5_luck_X5_isEither : GoodIn wsX5_luck wsX5_isEither := goodIn_r _ [14] (by decide +kernel) (by decide +kernel)
set_option maxRecDepth 20000 in
theorem gX5_luck_X5_isEither : GoodIn wsX5_luck (va_wsS RX5 159 yX5_isEither wsX5_isEither) := goodIn_app (goodIn_of _ (by decide +kernel)) ggX5_luck_X5_isEither
set_option maxRecDepth 20000 in
theorem ggX5_luck_X5_waysToLaugh : GoodIn wsX5_luck wsX5_waysToLaugh := goodIn_r _ [18, 1, 2, 69, 70, 71, 72, 73, 74, 75, 76, 77, 78, 79, 80, 81, 82, 83, 84, 85, 86, 87, 88, 89] (by decide +kernel) (by decide +kernel)
set_option maxRecDepth 20000 in
theorem gX5_luck_X5_waysToLaugh : GoodIn wsX5_luck (wsV RX5 179 RX5 yX5_waysToLaugh wsX5_waysToLaugh) := goodIn_app (goodIn_of _ (by decide +kernel)) ggX5_luck_X5_waysToLaugh
set_option maxRecDepth 20000 in
theorem ggX5_luck_X5_fallsByLaughs : GoodIn wsX5_luck wsX5_fallsByLaughs := goodIn_r _ [22, 23, 1, 2, 24, 25, 26, 27, 28, 29, 30, 31, 32, 33, 34, 35, 36, 37, 38, 39, 40, 41, 42, 43, 44, 45, 46, 47, 48, 49, 50, 51, 52, 53, 54, 55, 5, 56, 57, 4, 6, 58, 59, 60, 61, 62, 63, 64, 65, 69, 70, 71, 72, 73, 74, 75, 76, 77, 78, 79, 80, 81, 82, 83, 84, 85, 86, 87, 88, 89] (by decide +kernel) (by decide +kernel)
set_option maxRecDepth 20000 in
theorem gX5_luck_X5_fallsByLaughs : GoodIn wsX5_luck (wsV RX5 183 RX5 yX5_fallsByLaughs wsX5_fallsByLaughs) := goodIn_app (goodIn_of _ (by decide +kernel)) ggX5_luck_X5_fallsByLaughs
set_option maxRecDepth 20000 in
theorem ggX5_luck_X5_commonDivisor : GoodIn wsX5_luck wsX5_commonDivisor := goodIn_r _ [68] (by decide +kernel) (by decide +kernel)
set_option maxRecDepth 20000 in
theorem gX5_luck_X5_commonDivisor : GoodIn wsX5_luck (va_wsS RX5 187 yX5_commonDivisor wsX5_commonDivisor) := goodIn_app (goodIn_of _ (by decide +kernel)) ggX5_luck_X5_commonDivisor
theorem dX5_luck_0 : decode cX5_luck 0 = .ok (.aload_n 0, 1) := by decide +kernel
theorem dX5_luck_1 : decode cX5_luck 1 = .ok (.iload_n 1, 1) := by decide +kernel
theorem dX5_luck_2 : decode cX5_luck 2 = .ok (.invokevirtual 68, 3) := by decide +kernel
theorem dX5_luck_5 : decode cX5_luck 5 = .ok (.ifCond .eq 20, 3) := by decide +kernel
theorem dX5_luck_8 : decode cX5_luck 8 = .ok (.iload_n 2, 1) := by decide +kernel
theorem dX5_luck_9 : decode cX5_luck 9 = .ok (.ifCond .lt 16, 3) := by decide +kernel
theorem dX5_luck_12 : decode cX5_luck 12 = .ok (.iload_n 2, 1) := by decide +kernel
theorem dX5_luck_13 : decode cX5_luck 13 = .ok (.bipush 10, 2) := by decide +kernel
theorem dX5_luck_15 : decode cX5_luck 15 = .ok (.if_icmp .gt 10, 3) := by decide +kernel
theorem dX5_luck_18 : decode cX5_luck 18 = .ok (.iload_n 3, 1) := by decide +kernel
theorem dX5_luck_19 : decode cX5_luck 19 = .ok (.invokestatic 159, 3) := by decide +kernel
theorem dX5_luck_22 : decode cX5_luck 22 = .ok (.ifCond .ne 5, 3) := by decide +kernel
theorem dX5_luck_25 : decode cX5_luck 25 = .ok (.iconst (-1), 1) := by decide +kernel
theorem dX5_luck_26 : decode cX5_luck 26 = .ok (.ireturn, 1) := by decide +kernel
theorem dX5_luck_27 : decode cX5_luck 27 = .ok (.iconst 0, 1) := by decide +kernel
theorem dX5_luck_28 : decode cX5_luck 28 = .ok (.istore 4, 2) := by decide +kernel
theorem dX5_luck_30 : decode cX5_luck 30 = .ok (.iconst 0, 1) := by decide +kernel
theorem dX5_luck_31 : decode cX5_luck 31 = .ok (.istore 5, 2) := by decide +kernel
theorem dX5_luck_33 : decode cX5_luck 33 = .ok (.iconst 1, 1) := by decide +kernel
theorem dX5_luck_34 : decode cX5_luck 34 = .ok (.aload_n 0, 1) := by decide +kernel
theorem dX5_luck_35 : decode cX5_luck 35 = .ok (.getfield 10, 3) := by decide +kernel
theorem dX5_luck_38 : decode cX5_luck 38 = .ok (.getfield 57, 3) := by decide +kernel
theorem dX5_luck_41 : decode cX5_luck 41 = .ok (.ishl, 1) := by decide +kernel
theorem dX5_luck_42 : decode cX5_luck 42 = .ok (.istore 6, 2) := by decide +kernel
theorem dX5_luck_44 : decode cX5_luck 44 = .ok (.iconst 0, 1) := by decide +kernel
theorem dX5_luck_45 : decode cX5_luck 45 = .ok (.istore 7, 2) := by decide +kernel
theorem dX5_luck_47 : decode cX5_luck 47 = .ok (.iload 7, 2) := by decide +kernel
theorem dX5_luck_49 : decode cX5_luck 49 = .ok (.iload 6, 2) := by decide +kernel
theorem dX5_luck_51 : decode cX5_luck 51 = .ok (.if_icmp .ge 57, 3) := by decide +kernel
theorem dX5_luck_54 : decode cX5_luck 54 = .ok (.iload 7, 2) := by decide +kernel
theorem dX5_luck_56 : decode cX5_luck 56 = .ok (.iload_n 1, 1) := by decide +kernel
theorem dX5_luck_57 : decode cX5_luck 57 = .ok (.ishr, 1) := by decide +kernel
theorem dX5_luck_58 : decode cX5_luck 58 = .ok (.iconst 1, 1) := by decide +kernel
theorem dX5_luck_59 : decode cX5_luck 59 = .ok (.iand, 1) := by decide +kernel
theorem dX5_luck_60 : decode cX5_luck 60 = .ok (.ifCond .ne 42, 3) := by decide +kernel
theorem dX5_luck_63 : decode cX5_luck 63 = .ok (.aload_n 0, 1) := by decide +kernel
theorem dX5_luck_64 : decode cX5_luck 64 = .ok (.iload_n 1, 1) := by decide +kernel
theorem dX5_luck_65 : decode cX5_luck 65 = .ok (.iload 7, 2) := by decide +kernel
theorem dX5_luck_67 : decode cX5_luck 67 = .ok (.iload_n 2, 1) := by decide +kernel
theorem dX5_luck_68 : decode cX5_luck 68 = .ok (.invokevirtual 179, 3) := by decide +kernel
theorem dX5_luck_71 : decode cX5_luck 71 = .ok (.istore 8, 2) := by decide +kernel
theorem dX5_luck_73 : decode cX5_luck 73 = .ok (.iload 5, 2) := by decide +kernel
theorem dX5_luck_75 : decode cX5_luck 75 = .ok (.iload 8, 2) := by decide +kernel
theorem dX5_luck_77 : decode cX5_luck 77 = .ok (.iadd, 1) := by decide +kernel
theorem dX5_luck_78 : decode cX5_luck 78 = .ok (.istore 5, 2) := by decide +kernel
theorem dX5_luck_80 : decode cX5_luck 80 = .ok (.iload 8, 2) := by decide +kernel
theorem dX5_luck_82 : decode cX5_luck 82 = .ok (.ifCond .le 20, 3) := by decide +kernel
theorem dX5_luck_85 : decode cX5_luck 85 = .ok (.aload_n 0, 1) := by decide +kernel
theorem dX5_luck_86 : decode cX5_luck 86 = .ok (.iload_n 1, 1) := by decide +kernel
theorem dX5_luck_87 : decode cX5_luck 87 = .ok (.iload 7, 2) := by decide +kernel
theorem dX5_luck_89 : decode cX5_luck 89 = .ok (.invokevirtual 183, 3) := by decide +kernel
theorem dX5_luck_92 : decode cX5_luck 92 = .ok (.ifCond .eq 10, 3) := by decide +kernel
theorem dX5_luck_95 : decode cX5_luck 95 = .ok (.iload 4, 2) := by decide +kernel
theorem dX5_luck_97 : decode cX5_luck 97 = .ok (.iload 8, 2) := by decide +kernel
theorem dX5_luck_99 : decode cX5_luck 99 = .ok (.iadd, 1) := by decide +kernel
theorem dX5_luck_100 : decode cX5_luck 100 = .ok (.istore 4, 2) := by decide +kernel
theorem dX5_luck_102 : decode cX5_luck 102 = .ok (.iinc 7 1, 3) := by decide +kernel
theorem dX5_luck_105 : decode cX5_luck 105 = .ok (.goto (-58), 3) := by decide +kernel
theorem dX5_luck_108 : decode cX5_luck 108 = .ok (.iconst 1, 1) := by decide +kernel
theorem dX5_luck_109 : decode cX5_luck 109 = .ok (.iload 4, 2) := by decide +kernel
theorem dX5_luck_111 : decode cX5_luck 111 = .ok (.iload 5, 2) := by decide +kernel
theorem dX5_luck_113 : decode cX5_luck 113 = .ok (.invokestatic 187, 3) := by decide +kernel
theorem dX5_luck_116 : decode cX5_luck 116 = .ok (.invokestatic 190, 3) := by decide +kernel
theorem dX5_luck_119 : decode cX5_luck 119 = .ok (.istore 7, 2) := by decide +kernel
theorem dX5_luck_121 : decode cX5_luck 121 = .ok (.iload_n 3, 1) := by decide +kernel
theorem dX5_luck_122 : decode cX5_luck 122 = .ok (.ifCond .ne 11, 3) := by decide +kernel
theorem dX5_luck_125 : decode cX5_luck 125 = .ok (.iload 4, 2) := by decide +kernel
theorem dX5_luck_127 : decode cX5_luck 127 = .ok (.iload 7, 2) := by decide +kernel
theorem dX5_luck_129 : decode cX5_luck 129 = .ok (.idiv, 1) := by decide +kernel
theorem dX5_luck_130 : decode cX5_luck 130 = .ok (.goto 8, 3) := by decide +kernel
theorem dX5_luck_133 : decode cX5_luck 133 = .ok (.iload 5, 2) := by decide +kernel
theorem dX5_luck_135 : decode cX5_luck 135 = .ok (.iload 7, 2) := by decide +kernel
theorem dX5_luck_137 : decode cX5_luck 137 = .ok (.idiv, 1) := by decide +kernel
theorem dX5_luck_138 : decode cX5_luck 138 = .ok (.ireturn, 1) := by decide +kernel
set_option maxRecDepth 20000 in
theorem ggX5_image_X1_take : GoodIn wsX5_image wsX1_take := goodIn_r _ [10, 11, 12, 13, 14, 15, 16, 17, 18, 19, 20, 21, 22, 23, 24, 46, 47, 48, 49, 50, 51, 52, 53, 54, 55, 56, 57] (by decide +kernel) (by decide +kernel)
set_option maxRecDepth 20000 in
theorem gX5_image_X1_take : GoodIn wsX5_image (wsV RX5 110 RX1 yX1_take wsX1_take) := goodIn_app (goodIn_of _ (by decide +kernel)) ggX5_image_X1_take
set_option maxRecDepth 20000 in
theorem ggX5_image_X0_take : GoodIn wsX5_image wsX0_take := goodIn_r _ [29, 30, 31, 13, 14, 15, 32, 33, 34, 35, 36, 58, 59, 60, 61, 62, 63] (by decide +kernel) (by decide +kernel)
set_option maxRecDepth 20000 in
theorem gX5_image_X0_take : GoodIn wsX5_image (wsV RX5 195 RX0 yX0_take wsX0_take) := goodIn_app (goodIn_of _ (by decide +kernel)) ggX5_image_X0_take
theorem dX5_image_0 : decode cX5_image 0 = .ok (.aload_n 0, 1) := by decide +kernel
theorem dX5_image_1 : decode cX5_image 1 = .ok (.getfield 47, 3) := by decide +kernel
theorem dX5_image_4 : decode cX5_image 4 = .ok (.aload_n 0, 1) := by decide +kernel
theorem dX5_image_5 : decode cX5_image 5 = .ok (.getfield 10, 3) := by decide +kernel
theorem dX5_image_8 : decode cX5_image 8 = .ok (.invokevirtual 110, 3) := by decide +kernel
theorem dX5_image_11 : decode cX5_image 11 = .ok (.aload_n 0, 1) := by decide +kernel
theorem dX5_image_12 : decode cX5_image 12 = .ok (.getfield 50, 3) := by decide +kernel
theorem dX5_image_15 : decode cX5_image 15 = .ok (.aload_n 0, 1) := by decide +kernel
theorem dX5_image_16 : decode cX5_image 16 = .ok (.getfield 22, 3) := by decide +kernel
theorem dX5_image_19 : decode cX5_image 19 = .ok (.invokevirtual 195, 3) := by decide +kernel
theorem dX5_image_22 : decode cX5_image 22 = .ok (.aload_n 0, 1) := by decide +kernel
theorem dX5_image_23 : decode cX5_image 23 = .ok (.iconst 1, 1) := by decide +kernel
theorem dX5_image_24 : decode cX5_image 24 = .ok (.putfield 198, 3) := by decide +kernel
theorem dX5_image_27 : decode cX5_image 27 = .ok (.iconst 1, 1) := by decide +kernel
theorem dX5_image_28 : decode cX5_image 28 = .ok (.ireturn, 1) := by decide +kernel
set_option maxRecDepth 20000 in
theorem ggX5_restore_X1_take : GoodIn wsX5_restore wsX1_take := goodIn_r _ [10, 11, 12, 13, 14, 15, 16, 17, 18, 19, 20, 21, 22, 23, 24, 46, 47, 48, 49, 50, 51, 52, 53, 54, 55, 56, 57] (by decide +kernel) (by decide +kernel)
set_option maxRecDepth 20000 in
theorem gX5_restore_X1_take : GoodIn wsX5_restore (wsV RX5 110 RX1 yX1_take wsX1_take) := goodIn_app (goodIn_of _ (by decide +kernel)) ggX5_restore_X1_take
set_option maxRecDepth 20000 in
theorem ggX5_restore_X0_take : GoodIn wsX5_restore wsX0_take := goodIn_r _ [29, 30, 31, 13, 14, 15, 32, 33, 34, 35, 36, 58, 59, 60, 61, 62, 63] (by decide +kernel) (by decide +kernel)
set_option maxRecDepth 20000 in
theorem gX5_restore_X0_take : GoodIn wsX5_restore (wsV RX5 195 RX0 yX0_take wsX0_take) := goodIn_app (goodIn_of _ (by decide +kernel)) ggX5_restore_X0_take
theorem dX5_restore_0 : decode cX5_restore 0 = .ok (.aload_n 0, 1) := by decide +kernel
theorem dX5_restore_1 : decode cX5_restore 1 = .ok (.getfield 198, 3) := by decide +kernel
theorem dX5_restore_4 : decode cX5_restore 4 = .ok (.ifCond .ne 6, 3) := by decide +kernel
theorem dX5_restore_7 : decode cX5_restore 7 = .ok (.bipush (-4), 2) := by decide +kernel
theorem dX5_restore_9 : decode cX5_restore 9 = .ok (.ireturn, 1) := by decide +kernel
theorem dX5_restore_10 : decode cX5_restore 10 = .ok (.aload_n 0, 1) := by decide +kernel
theorem dX5_restore_11 : decode cX5_restore 11 = .ok (.getfield 10, 3) := by decide +kernel
theorem dX5_restore_14 : decode cX5_restore 14 = .ok (.aload_n 0, 1) := by decide +kernel
theorem dX5_restore_15 : decode cX5_restore 15 = .ok (.getfield 47, 3) := by decide +kernel
theorem dX5_restore_18 : decode cX5_restore 18 = .ok (.invokevirtual 110, 3) := by decide +kernel
theorem dX5_restore_21 : decode cX5_restore 21 = .ok (.aload_n 0, 1) := by decide +kernel
theorem dX5_restore_22 : decode cX5_restore 22 = .ok (.getfield 22, 3) := by decide +kernel
theorem dX5_restore_25 : decode cX5_restore 25 = .ok (.aload_n 0, 1) := by decide +kernel
theorem dX5_restore_26 : decode cX5_restore 26 = .ok (.getfield 50, 3) := by decide +kernel
theorem dX5_restore_29 : decode cX5_restore 29 = .ok (.invokevirtual 195, 3) := by decide +kernel
theorem dX5_restore_32 : decode cX5_restore 32 = .ok (.iconst 1, 1) := by decide +kernel
theorem dX5_restore_33 : decode cX5_restore 33 = .ok (.ireturn, 1) := by decide +kernel
set_option maxRecDepth 20000 in
theorem ggX5_whence_X5_isSheet : GoodIn wsX5_whence wsX5_isSheet := goodIn_r _ [5] (by decide +kernel) (by decide +kernel)
set_option maxRecDepth 20000 in
theorem gX5_whence_X5_isSheet : GoodIn wsX5_whence (va_wsS RX5 202 yX5_isSheet wsX5_isSheet) := goodIn_app (goodIn_of _ (by decide +kernel)) ggX5_whence_X5_isSheet
set_option maxRecDepth 20000 in
theorem ggX5_whence_X5_isLane : GoodIn wsX5_whence wsX5_isLane := goodIn_r _ [8] (by decide +kernel) (by decide +kernel)
set_option maxRecDepth 20000 in
theorem gX5_whence_X5_isLane : GoodIn wsX5_whence (va_wsS RX5 205 yX5_isLane wsX5_isLane) := goodIn_app (goodIn_of _ (by decide +kernel)) ggX5_whence_X5_isLane
set_option maxRecDepth 20000 in
theorem ggX5_whence_X5_isEither : GoodIn wsX5_whence wsX5_isEither := goodIn_r _ [11] (by decide +kernel) (by decide +kernel)
set_option maxRecDepth 20000 in
theorem gX5_whence_X5_isEither : GoodIn wsX5_whence (va_wsS RX5 159 yX5_isEither wsX5_isEither) := goodIn_app (goodIn_of _ (by decide +kernel)) ggX5_whence_X5_isEither
set_option maxRecDepth 20000 in
theorem ggX5_whence_X3_refusal : GoodIn wsX5_whence wsX3_refusal := goodIn_r _ [16, 17, 18, 19, 20, 21, 15, 22, 23, 97, 98, 99, 100] (by decide +kernel) (by decide +kernel)
set_option maxRecDepth 20000 in
theorem gX5_whence_X3_refusal : GoodIn wsX5_whence (wsV RX5 208 RX3 yX3_refusal wsX3_refusal) := goodIn_app (goodIn_of _ (by decide +kernel)) ggX5_whence_X3_refusal
set_option maxRecDepth 20000 in
theorem ggX5_whence_X5_clerksTold : GoodIn wsX5_whence wsX5_clerksTold := goodIn_r _ [27, 28, 29, 30, 97, 98, 99, 100, 88, 89, 90, 91, 92, 93, 94, 95, 96, 101, 102, 103, 104, 105, 106, 107, 108, 109, 110, 111, 112] (by decide +kernel) (by decide +kernel)
set_option maxRecDepth 20000 in
theorem gX5_whence_X5_clerksTold : GoodIn wsX5_whence (wsV RX5 211 RX5 yX5_clerksTold wsX5_clerksTold) := goodIn_app (goodIn_of _ (by decide +kernel)) ggX5_whence_X5_clerksTold
set_option maxRecDepth 20000 in
theorem ggX5_whence_X5_waysTo : GoodIn wsX5_whence wsX5_waysTo := goodIn_r _ [34, 35, 36, 37, 4, 38, 39, 29, 40, 41, 42, 43, 44, 45, 46, 47, 48, 49, 50, 51, 52, 53, 54, 55, 56, 57, 58, 59, 60, 61, 62, 63, 64, 65, 66, 67, 68, 69, 70, 71, 72, 73, 74, 75, 76, 77, 78, 79, 80, 81, 82, 83, 88, 89, 90, 91, 92, 93, 94, 95, 96, 101, 102, 103, 104, 105, 106, 107, 108, 109, 110, 111, 112] (by decide +kernel) (by decide +kernel)
set_option maxRecDepth 20000 in
theorem gX5_whence_X5_waysTo : GoodIn wsX5_whence (wsV RX5 215 RX5 yX5_waysTo wsX5_waysTo) := goodIn_app (goodIn_of _ (by decide +kernel)) ggX5_whence_X5_waysTo
set_option maxRecDepth 20000 in
theorem ggX5_whence_X5_firstWayTo : GoodIn wsX5_whence wsX5_firstWayTo := goodIn_r _ [87, 35, 36, 37, 4, 38, 39, 29, 40, 41, 42, 43, 44, 45, 46, 47, 48, 49, 50, 51, 52, 53, 54, 55, 56, 57, 58, 59, 60, 61, 62, 63, 64, 65, 66, 67, 68, 69, 70, 71, 72, 73, 74, 75, 76, 77, 78, 79, 80, 81, 82, 83, 88, 89, 90, 91, 92, 93, 94, 95, 96, 101, 102, 103, 104, 105, 106, 107, 108, 109, 110, 111, 112] (by decide +kernel) (by decide +kernel)
set_option maxRecDepth 20000 in
theorem gX5_whence_X5_firstWayTo : GoodIn wsX5_whence (wsV RX5 218 RX5 yX5_firstWayTo wsX5_firstWayTo) := goodIn_app (goodIn_of _ (by decide +kernel)) ggX5_whence_X5_firstWayTo
theorem dX5_whence_0 : decode cX5_whence 0 = .ok (.iload_n 1, 1) := by decide +kernel
theorem dX5_whence_1 : decode cX5_whence 1 = .ok (.invokestatic 202, 3) := by decide +kernel
theorem dX5_whence_4 : decode cX5_whence 4 = .ok (.ifCond .eq 30, 3) := by decide +kernel
theorem dX5_whence_7 : decode cX5_whence 7 = .ok (.iload_n 2, 1) := by decide +kernel
theorem dX5_whence_8 : decode cX5_whence 8 = .ok (.invokestatic 205, 3) := by decide +kernel
theorem dX5_whence_11 : decode cX5_whence 11 = .ok (.ifCond .eq 23, 3) := by decide +kernel
theorem dX5_whence_14 : decode cX5_whence 14 = .ok (.iload 4, 2) := by decide +kernel
theorem dX5_whence_16 : decode cX5_whence 16 = .ok (.ifCond .lt 18, 3) := by decide +kernel
theorem dX5_whence_19 : decode cX5_whence 19 = .ok (.iload 4, 2) := by decide +kernel
theorem dX5_whence_21 : decode cX5_whence 21 = .ok (.bipush 6, 2) := by decide +kernel
theorem dX5_whence_23 : decode cX5_whence 23 = .ok (.if_icmp .gt 11, 3) := by decide +kernel
theorem dX5_whence_26 : decode cX5_whence 26 = .ok (.iload 5, 2) := by decide +kernel
theorem dX5_whence_28 : decode cX5_whence 28 = .ok (.invokestatic 159, 3) := by decide +kernel
theorem dX5_whence_31 : decode cX5_whence 31 = .ok (.ifCond .ne 5, 3) := by decide +kernel
theorem dX5_whence_34 : decode cX5_whence 34 = .ok (.iconst (-1), 1) := by decide +kernel
theorem dX5_whence_35 : decode cX5_whence 35 = .ok (.ireturn, 1) := by decide +kernel
theorem dX5_whence_36 : decode cX5_whence 36 = .ok (.aload_n 0, 1) := by decide +kernel
theorem dX5_whence_37 : decode cX5_whence 37 = .ok (.getfield 42, 3) := by decide +kernel
theorem dX5_whence_40 : decode cX5_whence 40 = .ok (.iload_n 1, 1) := by decide +kernel
theorem dX5_whence_41 : decode cX5_whence 41 = .ok (.aaload, 1) := by decide +kernel
theorem dX5_whence_42 : decode cX5_whence 42 = .ok (.iload_n 2, 1) := by decide +kernel
theorem dX5_whence_43 : decode cX5_whence 43 = .ok (.iload_n 3, 1) := by decide +kernel
theorem dX5_whence_44 : decode cX5_whence 44 = .ok (.iload 4, 2) := by decide +kernel
theorem dX5_whence_46 : decode cX5_whence 46 = .ok (.invokevirtual 208, 3) := by decide +kernel
theorem dX5_whence_49 : decode cX5_whence 49 = .ok (.istore 6, 2) := by decide +kernel
theorem dX5_whence_51 : decode cX5_whence 51 = .ok (.iload 6, 2) := by decide +kernel
theorem dX5_whence_53 : decode cX5_whence 53 = .ok (.ifCond .eq 6, 3) := by decide +kernel
theorem dX5_whence_56 : decode cX5_whence 56 = .ok (.iload 6, 2) := by decide +kernel
theorem dX5_whence_58 : decode cX5_whence 58 = .ok (.ireturn, 1) := by decide +kernel
theorem dX5_whence_59 : decode cX5_whence 59 = .ok (.aload_n 0, 1) := by decide +kernel
theorem dX5_whence_60 : decode cX5_whence 60 = .ok (.aload_n 0, 1) := by decide +kernel
theorem dX5_whence_61 : decode cX5_whence 61 = .ok (.getfield 42, 3) := by decide +kernel
theorem dX5_whence_64 : decode cX5_whence 64 = .ok (.iload_n 1, 1) := by decide +kernel
theorem dX5_whence_65 : decode cX5_whence 65 = .ok (.aaload, 1) := by decide +kernel
theorem dX5_whence_66 : decode cX5_whence 66 = .ok (.iload_n 3, 1) := by decide +kernel
theorem dX5_whence_67 : decode cX5_whence 67 = .ok (.iload 4, 2) := by decide +kernel
theorem dX5_whence_69 : decode cX5_whence 69 = .ok (.invokevirtual 211, 3) := by decide +kernel
theorem dX5_whence_72 : decode cX5_whence 72 = .ok (.istore 7, 2) := by decide +kernel
theorem dX5_whence_74 : decode cX5_whence 74 = .ok (.iload 7, 2) := by decide +kernel
theorem dX5_whence_76 : decode cX5_whence 76 = .ok (.ifCond .ge 6, 3) := by decide +kernel
theorem dX5_whence_79 : decode cX5_whence 79 = .ok (.bipush (-2), 2) := by decide +kernel
theorem dX5_whence_81 : decode cX5_whence 81 = .ok (.ireturn, 1) := by decide +kernel
theorem dX5_whence_82 : decode cX5_whence 82 = .ok (.iload 5, 2) := by decide +kernel
theorem dX5_whence_84 : decode cX5_whence 84 = .ok (.ifCond .ne 12, 3) := by decide +kernel
theorem dX5_whence_87 : decode cX5_whence 87 = .ok (.aload_n 0, 1) := by decide +kernel
theorem dX5_whence_88 : decode cX5_whence 88 = .ok (.iload 7, 2) := by decide +kernel
theorem dX5_whence_90 : decode cX5_whence 90 = .ok (.invokevirtual 215, 3) := by decide +kernel
theorem dX5_whence_93 : decode cX5_whence 93 = .ok (.goto 9, 3) := by decide +kernel
theorem dX5_whence_96 : decode cX5_whence 96 = .ok (.aload_n 0, 1) := by decide +kernel
theorem dX5_whence_97 : decode cX5_whence 97 = .ok (.iload 7, 2) := by decide +kernel
theorem dX5_whence_99 : decode cX5_whence 99 = .ok (.invokevirtual 218, 3) := by decide +kernel
theorem dX5_whence_102 : decode cX5_whence 102 = .ok (.ireturn, 1) := by decide +kernel
set_option maxRecDepth 20000 in
theorem ggX5_film_X5_isSheet : GoodIn wsX5_film wsX5_isSheet := goodIn_r _ [8] (by decide +kernel) (by decide +kernel)
set_option maxRecDepth 20000 in
theorem gX5_film_X5_isSheet : GoodIn wsX5_film (va_wsS RX5 202 yX5_isSheet wsX5_isSheet) := goodIn_app (goodIn_of _ (by decide +kernel)) ggX5_film_X5_isSheet
set_option maxRecDepth 20000 in
theorem ggX5_film_X5_isLane : GoodIn wsX5_film wsX5_isLane := goodIn_r _ [11] (by decide +kernel) (by decide +kernel)
set_option maxRecDepth 20000 in
theorem gX5_film_X5_isLane : GoodIn wsX5_film (va_wsS RX5 205 yX5_isLane wsX5_isLane) := goodIn_app (goodIn_of _ (by decide +kernel)) ggX5_film_X5_isLane
set_option maxRecDepth 20000 in
theorem ggX5_film_X3_refusal : GoodIn wsX5_film wsX3_refusal := goodIn_r _ [16, 17, 18, 19, 20, 21, 15, 22, 23, 54, 55, 56, 57] (by decide +kernel) (by decide +kernel)
set_option maxRecDepth 20000 in
theorem gX5_film_X3_refusal : GoodIn wsX5_film (wsV RX5 208 RX3 yX3_refusal wsX3_refusal) := goodIn_app (goodIn_of _ (by decide +kernel)) ggX5_film_X3_refusal
set_option maxRecDepth 20000 in
theorem ggX5_film_X3_put : GoodIn wsX5_film wsX3_put := goodIn_r _ [27, 28, 19, 20, 21, 15, 22, 23, 29, 30, 31, 32, 18, 54, 55, 56, 57] (by decide +kernel) (by decide +kernel)
set_option maxRecDepth 20000 in
theorem gX5_film_X3_put : GoodIn wsX5_film (wsV RX5 221 RX3 yX3_put wsX3_put) := goodIn_app (goodIn_of _ (by decide +kernel)) ggX5_film_X3_put
theorem dX5_film_0 : decode cX5_film 0 = .ok (.iload_n 1, 1) := by decide +kernel
theorem dX5_film_1 : decode cX5_film 1 = .ok (.iconst 1, 1) := by decide +kernel
theorem dX5_film_2 : decode cX5_film 2 = .ok (.if_icmp .lt 28, 3) := by decide +kernel
theorem dX5_film_5 : decode cX5_film 5 = .ok (.iload_n 1, 1) := by decide +kernel
theorem dX5_film_6 : decode cX5_film 6 = .ok (.aload_n 0, 1) := by decide +kernel
theorem dX5_film_7 : decode cX5_film 7 = .ok (.getfield 10, 3) := by decide +kernel
theorem dX5_film_10 : decode cX5_film 10 = .ok (.getfield 57, 3) := by decide +kernel
theorem dX5_film_13 : decode cX5_film 13 = .ok (.if_icmp .gt 17, 3) := by decide +kernel
theorem dX5_film_16 : decode cX5_film 16 = .ok (.iload_n 2, 1) := by decide +kernel
theorem dX5_film_17 : decode cX5_film 17 = .ok (.invokestatic 202, 3) := by decide +kernel
theorem dX5_film_20 : decode cX5_film 20 = .ok (.ifCond .eq 10, 3) := by decide +kernel
theorem dX5_film_23 : decode cX5_film 23 = .ok (.iload_n 3, 1) := by decide +kernel
theorem dX5_film_24 : decode cX5_film 24 = .ok (.invokestatic 205, 3) := by decide +kernel
theorem dX5_film_27 : decode cX5_film 27 = .ok (.ifCond .ne 5, 3) := by decide +kernel
theorem dX5_film_30 : decode cX5_film 30 = .ok (.iconst (-1), 1) := by decide +kernel
theorem dX5_film_31 : decode cX5_film 31 = .ok (.ireturn, 1) := by decide +kernel
theorem dX5_film_32 : decode cX5_film 32 = .ok (.aload_n 0, 1) := by decide +kernel
theorem dX5_film_33 : decode cX5_film 33 = .ok (.getfield 42, 3) := by decide +kernel
theorem dX5_film_36 : decode cX5_film 36 = .ok (.iload_n 2, 1) := by decide +kernel
theorem dX5_film_37 : decode cX5_film 37 = .ok (.aaload, 1) := by decide +kernel
theorem dX5_film_38 : decode cX5_film 38 = .ok (.iload_n 3, 1) := by decide +kernel
theorem dX5_film_39 : decode cX5_film 39 = .ok (.iload 4, 2) := by decide +kernel
theorem dX5_film_41 : decode cX5_film 41 = .ok (.iload_n 1, 1) := by decide +kernel
theorem dX5_film_42 : decode cX5_film 42 = .ok (.invokevirtual 208, 3) := by decide +kernel
theorem dX5_film_45 : decode cX5_film 45 = .ok (.istore 5, 2) := by decide +kernel
theorem dX5_film_47 : decode cX5_film 47 = .ok (.iload 5, 2) := by decide +kernel
theorem dX5_film_49 : decode cX5_film 49 = .ok (.ifCond .eq 6, 3) := by decide +kernel
theorem dX5_film_52 : decode cX5_film 52 = .ok (.iload 5, 2) := by decide +kernel
theorem dX5_film_54 : decode cX5_film 54 = .ok (.ireturn, 1) := by decide +kernel
theorem dX5_film_55 : decode cX5_film 55 = .ok (.iconst 0, 1) := by decide +kernel
theorem dX5_film_56 : decode cX5_film 56 = .ok (.istore 6, 2) := by decide +kernel
theorem dX5_film_58 : decode cX5_film 58 = .ok (.iload 6, 2) := by decide +kernel
theorem dX5_film_60 : decode cX5_film 60 = .ok (.iload_n 1, 1) := by decide +kernel
theorem dX5_film_61 : decode cX5_film 61 = .ok (.if_icmp .ge 34, 3) := by decide +kernel
theorem dX5_film_64 : decode cX5_film 64 = .ok (.aload_n 0, 1) := by decide +kernel
theorem dX5_film_65 : decode cX5_film 65 = .ok (.getfield 42, 3) := by decide +kernel
theorem dX5_film_68 : decode cX5_film 68 = .ok (.iload_n 2, 1) := by decide +kernel
theorem dX5_film_69 : decode cX5_film 69 = .ok (.aaload, 1) := by decide +kernel
theorem dX5_film_70 : decode cX5_film 70 = .ok (.iload 4, 2) := by decide +kernel
theorem dX5_film_72 : decode cX5_film 72 = .ok (.iload 6, 2) := by decide +kernel
theorem dX5_film_74 : decode cX5_film 74 = .ok (.iadd, 1) := by decide +kernel
theorem dX5_film_75 : decode cX5_film 75 = .ok (.aload_n 0, 1) := by decide +kernel
theorem dX5_film_76 : decode cX5_film 76 = .ok (.getfield 10, 3) := by decide +kernel
theorem dX5_film_79 : decode cX5_film 79 = .ok (.getfield 81, 3) := by decide +kernel
theorem dX5_film_82 : decode cX5_film 82 = .ok (.iload 6, 2) := by decide +kernel
theorem dX5_film_84 : decode cX5_film 84 = .ok (.iaload, 1) := by decide +kernel
theorem dX5_film_85 : decode cX5_film 85 = .ok (.i2l, 1) := by decide +kernel
theorem dX5_film_86 : decode cX5_film 86 = .ok (.invokevirtual 221, 3) := by decide +kernel
theorem dX5_film_89 : decode cX5_film 89 = .ok (.iinc 6 1, 3) := by decide +kernel
theorem dX5_film_92 : decode cX5_film 92 = .ok (.goto (-34), 3) := by decide +kernel
theorem dX5_film_95 : decode cX5_film 95 = .ok (.iload_n 1, 1) := by decide +kernel
theorem dX5_film_96 : decode cX5_film 96 = .ok (.ireturn, 1) := by decide +kernel
set_option maxRecDepth 20000 in
theorem ggX5_sheet_X5_isSheet : GoodIn wsX5_sheet wsX5_isSheet := goodIn_r _ [5] (by decide +kernel) (by decide +kernel)
set_option maxRecDepth 20000 in
theorem gX5_sheet_X5_isSheet : GoodIn wsX5_sheet (va_wsS RX5 202 yX5_isSheet wsX5_isSheet) := goodIn_app (goodIn_of _ (by decide +kernel)) ggX5_sheet_X5_isSheet
set_option maxRecDepth 20000 in
theorem ggX5_sheet_X5_isLane : GoodIn wsX5_sheet wsX5_isLane := goodIn_r _ [8] (by decide +kernel) (by decide +kernel)
set_option maxRecDepth 20000 in
theorem gX5_sheet_X5_isLane : GoodIn wsX5_sheet (va_wsS RX5 205 yX5_isLane wsX5_isLane) := goodIn_app (goodIn_of _ (by decide +kernel)) ggX5_sheet_X5_isLane
set_option maxRecDepth 20000 in
theorem ggX5_sheet_X3_renew : GoodIn wsX5_sheet wsX3_renew := goodIn_r _ [13, 14, 15, 16, 17, 18, 19, 20, 21, 31, 32, 33, 34] (by decide +kernel) (by decide +kernel)
set_option maxRecDepth 20000 in
theorem gX5_sheet_X3_renew : GoodIn wsX5_sheet (wsV RX5 224 RX3 yX3_renew wsX3_renew) := goodIn_app (goodIn_of _ (by decide +kernel)) ggX5_sheet_X3_renew
theorem dX5_sheet_0 : decode cX5_sheet 0 = .ok (.iload_n 1, 1) := by decide +kernel
theorem dX5_sheet_1 : decode cX5_sheet 1 = .ok (.invokestatic 202, 3) := by decide +kernel
theorem dX5_sheet_4 : decode cX5_sheet 4 = .ok (.ifCond .eq 16, 3) := by decide +kernel
theorem dX5_sheet_7 : decode cX5_sheet 7 = .ok (.iload_n 2, 1) := by decide +kernel
theorem dX5_sheet_8 : decode cX5_sheet 8 = .ok (.invokestatic 205, 3) := by decide +kernel
theorem dX5_sheet_11 : decode cX5_sheet 11 = .ok (.ifCond .eq 9, 3) := by decide +kernel
theorem dX5_sheet_14 : decode cX5_sheet 14 = .ok (.iload_n 3, 1) := by decide +kernel
theorem dX5_sheet_15 : decode cX5_sheet 15 = .ok (.bipush 24, 2) := by decide +kernel
theorem dX5_sheet_17 : decode cX5_sheet 17 = .ok (.if_icmp .le 5, 3) := by decide +kernel
theorem dX5_sheet_20 : decode cX5_sheet 20 = .ok (.iconst (-1), 1) := by decide +kernel
theorem dX5_sheet_21 : decode cX5_sheet 21 = .ok (.ireturn, 1) := by decide +kernel
theorem dX5_sheet_22 : decode cX5_sheet 22 = .ok (.iload_n 3, 1) := by decide +kernel
theorem dX5_sheet_23 : decode cX5_sheet 23 = .ok (.ifCond .ge 6, 3) := by decide +kernel
theorem dX5_sheet_26 : decode cX5_sheet 26 = .ok (.bipush (-14), 2) := by decide +kernel
theorem dX5_sheet_28 : decode cX5_sheet 28 = .ok (.ireturn, 1) := by decide +kernel
theorem dX5_sheet_29 : decode cX5_sheet 29 = .ok (.aload_n 0, 1) := by decide +kernel
theorem dX5_sheet_30 : decode cX5_sheet 30 = .ok (.getfield 42, 3) := by decide +kernel
theorem dX5_sheet_33 : decode cX5_sheet 33 = .ok (.iload_n 1, 1) := by decide +kernel
theorem dX5_sheet_34 : decode cX5_sheet 34 = .ok (.aaload, 1) := by decide +kernel
theorem dX5_sheet_35 : decode cX5_sheet 35 = .ok (.iload_n 2, 1) := by decide +kernel
theorem dX5_sheet_36 : decode cX5_sheet 36 = .ok (.iload_n 3, 1) := by decide +kernel
theorem dX5_sheet_37 : decode cX5_sheet 37 = .ok (.invokevirtual 224, 3) := by decide +kernel
theorem dX5_sheet_40 : decode cX5_sheet 40 = .ok (.iload_n 3, 1) := by decide +kernel
theorem dX5_sheet_41 : decode cX5_sheet 41 = .ok (.ireturn, 1) := by decide +kernel
set_option maxRecDepth 20000 in
theorem ggX5_drop_X5_isSheet : GoodIn wsX5_drop wsX5_isSheet := goodIn_r _ [7] (by decide +kernel) (by decide +kernel)
set_option maxRecDepth 20000 in
theorem gX5_drop_X5_isSheet : GoodIn wsX5_drop (va_wsS RX5 202 yX5_isSheet wsX5_isSheet) := goodIn_app (goodIn_of _ (by decide +kernel)) ggX5_drop_X5_isSheet
theorem dX5_drop_0 : decode cX5_drop 0 = .ok (.iload_n 1, 1) := by decide +kernel
theorem dX5_drop_1 : decode cX5_drop 1 = .ok (.invokestatic 202, 3) := by decide +kernel
theorem dX5_drop_4 : decode cX5_drop 4 = .ok (.ifCond .ne 5, 3) := by decide +kernel
theorem dX5_drop_7 : decode cX5_drop 7 = .ok (.iconst (-1), 1) := by decide +kernel
theorem dX5_drop_8 : decode cX5_drop 8 = .ok (.ireturn, 1) := by decide +kernel
theorem dX5_drop_9 : decode cX5_drop 9 = .ok (.aload_n 0, 1) := by decide +kernel
theorem dX5_drop_10 : decode cX5_drop 10 = .ok (.getfield 42, 3) := by decide +kernel
theorem dX5_drop_13 : decode cX5_drop 13 = .ok (.iload_n 1, 1) := by decide +kernel
theorem dX5_drop_14 : decode cX5_drop 14 = .ok (.aaload, 1) := by decide +kernel
theorem dX5_drop_15 : decode cX5_drop 15 = .ok (.getfield 228, 3) := by decide +kernel
theorem dX5_drop_18 : decode cX5_drop 18 = .ok (.ifCond .ne 6, 3) := by decide +kernel
theorem dX5_drop_21 : decode cX5_drop 21 = .ok (.bipush (-11), 2) := by decide +kernel
theorem dX5_drop_23 : decode cX5_drop 23 = .ok (.ireturn, 1) := by decide +kernel
theorem dX5_drop_24 : decode cX5_drop 24 = .ok (.aload_n 0, 1) := by decide +kernel
theorem dX5_drop_25 : decode cX5_drop 25 = .ok (.getfield 42, 3) := by decide +kernel
theorem dX5_drop_28 : decode cX5_drop 28 = .ok (.iload_n 1, 1) := by decide +kernel
theorem dX5_drop_29 : decode cX5_drop 29 = .ok (.aaload, 1) := by decide +kernel
theorem dX5_drop_30 : decode cX5_drop 30 = .ok (.iconst 0, 1) := by decide +kernel
theorem dX5_drop_31 : decode cX5_drop 31 = .ok (.putfield 228, 3) := by decide +kernel
theorem dX5_drop_34 : decode cX5_drop 34 = .ok (.aload_n 0, 1) := by decide +kernel
theorem dX5_drop_35 : decode cX5_drop 35 = .ok (.getfield 42, 3) := by decide +kernel
theorem dX5_drop_38 : decode cX5_drop 38 = .ok (.iload_n 1, 1) := by decide +kernel
theorem dX5_drop_39 : decode cX5_drop 39 = .ok (.aaload, 1) := by decide +kernel
theorem dX5_drop_40 : decode cX5_drop 40 = .ok (.getfield 231, 3) := by decide +kernel
theorem dX5_drop_43 : decode cX5_drop 43 = .ok (.ireturn, 1) := by decide +kernel
set_option maxRecDepth 20000 in
theorem ggX5_item_X5_isSheet : GoodIn wsX5_item wsX5_isSheet := goodIn_r _ [5] (by decide +kernel) (by decide +kernel)
set_option maxRecDepth 20000 in
theorem gX5_item_X5_isSheet : GoodIn wsX5_item (va_wsS RX5 202 yX5_isSheet wsX5_isSheet) := goodIn_app (goodIn_of _ (by decide +kernel)) ggX5_item_X5_isSheet
set_option maxRecDepth 20000 in
theorem ggX5_item_X5_isLane : GoodIn wsX5_item wsX5_isLane := goodIn_r _ [8] (by decide +kernel) (by decide +kernel)
set_option maxRecDepth 20000 in
theorem gX5_item_X5_isLane : GoodIn wsX5_item (va_wsS RX5 205 yX5_isLane wsX5_isLane) := goodIn_app (goodIn_of _ (by decide +kernel)) ggX5_item_X5_isLane
set_option maxRecDepth 20000 in
theorem ggX5_item_X3_refusal : GoodIn wsX5_item wsX3_refusal := goodIn_r _ [13, 14, 15, 16, 17, 18, 12, 19, 20, 39, 40, 41, 42] (by decide +kernel) (by decide +kernel)
set_option maxRecDepth 20000 in
theorem gX5_item_X3_refusal : GoodIn wsX5_item (wsV RX5 208 RX3 yX3_refusal wsX3_refusal) := goodIn_app (goodIn_of _ (by decide +kernel)) ggX5_item_X3_refusal
set_option maxRecDepth 20000 in
theorem ggX5_item_X3_put : GoodIn wsX5_item wsX3_put := goodIn_r _ [24, 25, 16, 17, 18, 12, 19, 20, 26, 27, 28, 29, 15, 39, 40, 41, 42] (by decide +kernel) (by decide +kernel)
set_option maxRecDepth 20000 in
theorem gX5_item_X3_put : GoodIn wsX5_item (wsV RX5 221 RX3 yX3_put wsX3_put) := goodIn_app (goodIn_of _ (by decide +kernel)) ggX5_item_X3_put
theorem dX5_item_0 : decode cX5_item 0 = .ok (.iload_n 1, 1) := by decide +kernel
theorem dX5_item_1 : decode cX5_item 1 = .ok (.invokestatic 202, 3) := by decide +kernel
theorem dX5_item_4 : decode cX5_item 4 = .ok (.ifCond .eq 10, 3) := by decide +kernel
theorem dX5_item_7 : decode cX5_item 7 = .ok (.iload_n 2, 1) := by decide +kernel
theorem dX5_item_8 : decode cX5_item 8 = .ok (.invokestatic 205, 3) := by decide +kernel
theorem dX5_item_11 : decode cX5_item 11 = .ok (.ifCond .ne 5, 3) := by decide +kernel
theorem dX5_item_14 : decode cX5_item 14 = .ok (.iconst (-1), 1) := by decide +kernel
theorem dX5_item_15 : decode cX5_item 15 = .ok (.ireturn, 1) := by decide +kernel
theorem dX5_item_16 : decode cX5_item 16 = .ok (.aload_n 0, 1) := by decide +kernel

theorem dX6_worst_41 : decode cX6_worst 41 = .ok (.iload_n 1, 1) := by decide +kernel
theorem dX6_worst_42 : decode cX6_worst 42 = .ok (.invokevirtual 178, 3) := by decide +kernel
theorem dX6_worst_45 : decode cX6_worst 45 = .ok (.istore 6, 2) := by decide +kernel
theorem dX6_worst_47 : decode cX6_worst 47 = .ok (.iload 6, 2) := by decide +kernel
theorem dX6_worst_49 : decode cX6_worst 49 = .ok (.iload 4, 2) := by decide +kernel
theorem dX6_worst_51 : decode cX6_worst 51 = .ok (.if_icmp .le 8, 3) := by decide +kernel
theorem dX6_worst_54 : decode cX6_worst 54 = .ok (.iload 5, 2) := by decide +kernel
theorem dX6_worst_56 : decode cX6_worst 56 = .ok (.goto 4, 3) := by decide +kernel
theorem dX6_worst_59 : decode cX6_worst 59 = .ok (.iload_n 3, 1) := by decide +kernel
theorem dX6_worst_60 : decode cX6_worst 60 = .ok (.istore_n 3, 1) := by decide +kernel
theorem dX6_worst_61 : decode cX6_worst 61 = .ok (.iload 6, 2) := by decide +kernel
theorem dX6_worst_63 : decode cX6_worst 63 = .ok (.iload 4, 2) := by decide +kernel
theorem dX6_worst_65 : decode cX6_worst 65 = .ok (.if_icmp .le 8, 3) := by decide +kernel
theorem dX6_worst_68 : decode cX6_worst 68 = .ok (.iload 6, 2) := by decide +kernel
theorem dX6_worst_70 : decode cX6_worst 70 = .ok (.goto 5, 3) := by decide +kernel
theorem dX6_worst_73 : decode cX6_worst 73 = .ok (.iload 4, 2) := by decide +kernel
theorem dX6_worst_75 : decode cX6_worst 75 = .ok (.istore 4, 2) := by decide +kernel
theorem dX6_worst_77 : decode cX6_worst 77 = .ok (.iinc 5 1, 3) := by decide +kernel
theorem dX6_worst_80 : decode cX6_worst 80 = .ok (.goto (-49), 3) := by decide +kernel
theorem dX6_worst_83 : decode cX6_worst 83 = .ok (.iload_n 2, 1) := by decide +kernel
theorem dX6_worst_84 : decode cX6_worst 84 = .ok (.ifCond .ne 7, 3) := by decide +kernel
theorem dX6_worst_87 : decode cX6_worst 87 = .ok (.iload_n 3, 1) := by decide +kernel
theorem dX6_worst_88 : decode cX6_worst 88 = .ok (.goto 5, 3) := by decide +kernel
theorem dX6_worst_91 : decode cX6_worst 91 = .ok (.iload 4, 2) := by decide +kernel
theorem dX6_worst_93 : decode cX6_worst 93 = .ok (.ireturn, 1) := by decide +kernel
set_option maxRecDepth 20000 in
theorem ggX6_enough_X6_isDesk : GoodIn wsX6_enough wsX6_isDesk := goodIn_r _ [6, 7, 8, 9, 5, 10] (by decide +kernel) (by decide +kernel)
set_option maxRecDepth 20000 in
theorem gX6_enough_X6_isDesk : GoodIn wsX6_enough (va_wsS RX6 86 yX6_isDesk wsX6_isDesk) := goodIn_app (goodIn_of _ (by decide +kernel)) ggX6_enough_X6_isDesk
set_option maxRecDepth 20000 in
theorem ggX6_enough_X6_in : GoodIn wsX6_enough wsX6_in := goodIn_r _ [10] (by decide +kernel) (by decide +kernel)
set_option maxRecDepth 20000 in
theorem gX6_enough_X6_in : GoodIn wsX6_enough (va_wsS RX6 47 yX6_in wsX6_in) := goodIn_app (goodIn_of _ (by decide +kernel)) ggX6_enough_X6_in
set_option maxRecDepth 20000 in
theorem ggX6_enough_X6_asides : GoodIn wsX6_enough wsX6_asides := goodIn_r _ [14, 15, 16, 62, 63, 64, 65, 66, 67, 68, 69, 70, 71, 72, 73, 74, 75, 76, 77, 78, 79, 80, 81] (by decide +kernel) (by decide +kernel)
set_option maxRecDepth 20000 in
theorem gX6_enough_X6_asides : GoodIn wsX6_enough (wsV RX6 165 RX6 yX6_asides wsX6_asides) := goodIn_app (goodIn_of _ (by decide +kernel)) ggX6_enough_X6_asides
set_option maxRecDepth 20000 in
theorem ggX6_enough_X6_costs : GoodIn wsX6_enough wsX6_costs := goodIn_r _ [20, 2, 21, 22, 23, 5, 24, 16, 25, 26, 27, 28, 29, 30, 31, 32, 33, 34, 35, 36, 37, 38, 39, 40, 41, 42, 43, 44, 45, 46, 47, 48, 49, 50, 51, 52, 53, 54, 55, 56, 57, 58, 15, 62, 63, 64, 65, 66, 67, 68, 69, 70, 71, 72, 73, 74, 75, 76, 77, 78, 79, 80, 81] (by decide +kernel) (by decide +kernel)
set_option maxRecDepth 20000 in
theorem gX6_enough_X6_costs : GoodIn wsX6_enough (wsV RX6 178 RX6 yX6_costs wsX6_costs) := goodIn_app (goodIn_of _ (by decide +kernel)) ggX6_enough_X6_costs
set_option maxRecDepth 20000 in
theorem ggX6_enough_X6_many : GoodIn wsX6_enough wsX6_many := goodIn_r _ [61] (by decide +kernel) (by decide +kernel)
set_option maxRecDepth 20000 in
theorem gX6_enough_X6_many : GoodIn wsX6_enough (va_wsS RX6 183 yX6_many wsX6_many) := goodIn_app (goodIn_of _ (by decide +kernel)) ggX6_enough_X6_many
theorem dX6_enough_0 : decode cX6_enough 0 = .ok (.iload_n 1, 1) := by decide +kernel
theorem dX6_enough_1 : decode cX6_enough 1 = .ok (.invokestatic 86, 3) := by decide +kernel
theorem dX6_enough_4 : decode cX6_enough 4 = .ok (.ifCond .eq 15, 3) := by decide +kernel
theorem dX6_enough_7 : decode cX6_enough 7 = .ok (.iload_n 2, 1) := by decide +kernel
theorem dX6_enough_8 : decode cX6_enough 8 = .ok (.i2l, 1) := by decide +kernel
theorem dX6_enough_9 : decode cX6_enough 9 = .ok (.lconst 1, 1) := by decide +kernel
theorem dX6_enough_10 : decode cX6_enough 10 = .ok (.ldc2_w 181, 3) := by decide +kernel
theorem dX6_enough_13 : decode cX6_enough 13 = .ok (.invokestatic 47, 3) := by decide +kernel
theorem dX6_enough_16 : decode cX6_enough 16 = .ok (.ifCond .ne 5, 3) := by decide +kernel
theorem dX6_enough_19 : decode cX6_enough 19 = .ok (.iconst (-1), 1) := by decide +kernel
theorem dX6_enough_20 : decode cX6_enough 20 = .ok (.ireturn, 1) := by decide +kernel
theorem dX6_enough_21 : decode cX6_enough 21 = .ok (.aload_n 0, 1) := by decide +kernel
theorem dX6_enough_22 : decode cX6_enough 22 = .ok (.invokevirtual 165, 3) := by decide +kernel
theorem dX6_enough_25 : decode cX6_enough 25 = .ok (.iconst 0, 1) := by decide +kernel
theorem dX6_enough_26 : decode cX6_enough 26 = .ok (.istore_n 3, 1) := by decide +kernel
theorem dX6_enough_27 : decode cX6_enough 27 = .ok (.iload_n 3, 1) := by decide +kernel
theorem dX6_enough_28 : decode cX6_enough 28 = .ok (.bipush 100, 2) := by decide +kernel
theorem dX6_enough_30 : decode cX6_enough 30 = .ok (.if_icmp .ge 29, 3) := by decide +kernel
theorem dX6_enough_33 : decode cX6_enough 33 = .ok (.aload_n 0, 1) := by decide +kernel
theorem dX6_enough_34 : decode cX6_enough 34 = .ok (.iload_n 1, 1) := by decide +kernel
theorem dX6_enough_35 : decode cX6_enough 35 = .ok (.iload_n 3, 1) := by decide +kernel
theorem dX6_enough_36 : decode cX6_enough 36 = .ok (.invokevirtual 178, 3) := by decide +kernel
theorem dX6_enough_39 : decode cX6_enough 39 = .ok (.pop, 1) := by decide +kernel
theorem dX6_enough_40 : decode cX6_enough 40 = .ok (.aload_n 0, 1) := by decide +kernel
theorem dX6_enough_41 : decode cX6_enough 41 = .ok (.getfield 175, 3) := by decide +kernel
theorem dX6_enough_44 : decode cX6_enough 44 = .ok (.invokestatic 183, 3) := by decide +kernel
theorem dX6_enough_47 : decode cX6_enough 47 = .ok (.iload_n 2, 1) := by decide +kernel
theorem dX6_enough_48 : decode cX6_enough 48 = .ok (.if_icmp .lt 5, 3) := by decide +kernel
theorem dX6_enough_51 : decode cX6_enough 51 = .ok (.iload_n 3, 1) := by decide +kernel
theorem dX6_enough_52 : decode cX6_enough 52 = .ok (.ireturn, 1) := by decide +kernel
theorem dX6_enough_53 : decode cX6_enough 53 = .ok (.iinc 3 1, 3) := by decide +kernel
theorem dX6_enough_56 : decode cX6_enough 56 = .ok (.goto (-29), 3) := by decide +kernel
theorem dX6_enough_59 : decode cX6_enough 59 = .ok (.bipush (-4), 2) := by decide +kernel
theorem dX6_enough_61 : decode cX6_enough 61 = .ok (.ireturn, 1) := by decide +kernel
theorem dX6_pick_0 : decode cX6_pick 0 = .ok (.iload_n 0, 1) := by decide +kernel
theorem dX6_pick_1 : decode cX6_pick 1 = .ok (.istore_n 2, 1) := by decide +kernel
theorem dX6_pick_2 : decode cX6_pick 2 = .ok (.iconst 0, 1) := by decide +kernel
theorem dX6_pick_3 : decode cX6_pick 3 = .ok (.istore_n 3, 1) := by decide +kernel
theorem dX6_pick_4 : decode cX6_pick 4 = .ok (.iload_n 3, 1) := by decide +kernel
theorem dX6_pick_5 : decode cX6_pick 5 = .ok (.iload_n 1, 1) := by decide +kernel
theorem dX6_pick_6 : decode cX6_pick 6 = .ok (.if_icmp .ge 15, 3) := by decide +kernel
theorem dX6_pick_9 : decode cX6_pick 9 = .ok (.iload_n 2, 1) := by decide +kernel
theorem dX6_pick_10 : decode cX6_pick 10 = .ok (.iload_n 2, 1) := by decide +kernel
theorem dX6_pick_11 : decode cX6_pick 11 = .ok (.iconst 1, 1) := by decide +kernel
theorem dX6_pick_12 : decode cX6_pick 12 = .ok (.isub, 1) := by decide +kernel
theorem dX6_pick_13 : decode cX6_pick 13 = .ok (.iand, 1) := by decide +kernel
theorem dX6_pick_14 : decode cX6_pick 14 = .ok (.istore_n 2, 1) := by decide +kernel
theorem dX6_pick_15 : decode cX6_pick 15 = .ok (.iinc 3 1, 3) := by decide +kernel
theorem dX6_pick_18 : decode cX6_pick 18 = .ok (.goto (-14), 3) := by decide +kernel
theorem dX6_pick_21 : decode cX6_pick 21 = .ok (.iconst 0, 1) := by decide +kernel
theorem dX6_pick_22 : decode cX6_pick 22 = .ok (.istore_n 3, 1) := by decide +kernel
theorem dX6_pick_23 : decode cX6_pick 23 = .ok (.iload_n 2, 1) := by decide +kernel
theorem dX6_pick_24 : decode cX6_pick 24 = .ok (.iload_n 3, 1) := by decide +kernel
theorem dX6_pick_25 : decode cX6_pick 25 = .ok (.ishr, 1) := by decide +kernel
theorem dX6_pick_26 : decode cX6_pick 26 = .ok (.iconst 1, 1) := by decide +kernel
theorem dX6_pick_27 : decode cX6_pick 27 = .ok (.iand, 1) := by decide +kernel
theorem dX6_pick_28 : decode cX6_pick 28 = .ok (.ifCond .ne 9, 3) := by decide +kernel
theorem dX6_pick_31 : decode cX6_pick 31 = .ok (.iinc 3 1, 3) := by decide +kernel
theorem dX6_pick_34 : decode cX6_pick 34 = .ok (.goto (-11), 3) := by decide +kernel
theorem dX6_pick_37 : decode cX6_pick 37 = .ok (.iload_n 3, 1) := by decide +kernel
theorem dX6_pick_38 : decode cX6_pick 38 = .ok (.ireturn, 1) := by decide +kernel
set_option maxRecDepth 20000 in
theorem ggX6_orders_X6_pick : GoodIn wsX6_orders wsX6_pick := goodIn_r _ [6] (by decide +kernel) (by decide +kernel)
set_option maxRecDepth 20000 in
theorem gX6_orders_X6_pick : GoodIn wsX6_orders (va_wsS RX6 186 yX6_pick wsX6_pick) := goodIn_app (goodIn_of _ (by decide +kernel)) ggX6_orders_X6_pick
theorem dX6_orders_0 : decode cX6_orders 0 = .ok (.aload_n 0, 1) := by decide +kernel
theorem dX6_orders_1 : decode cX6_orders 1 = .ok (.getfield 7, 3) := by decide +kernel
theorem dX6_orders_4 : decode cX6_orders 4 = .ok (.iconst 0, 1) := by decide +kernel
theorem dX6_orders_5 : decode cX6_orders 5 = .ok (.iaload, 1) := by decide +kernel
theorem dX6_orders_6 : decode cX6_orders 6 = .ok (.istore_n 3, 1) := by decide +kernel
theorem dX6_orders_7 : decode cX6_orders 7 = .ok (.iconst 1, 1) := by decide +kernel
theorem dX6_orders_8 : decode cX6_orders 8 = .ok (.iload_n 3, 1) := by decide +kernel
theorem dX6_orders_9 : decode cX6_orders 9 = .ok (.ishl, 1) := by decide +kernel
theorem dX6_orders_10 : decode cX6_orders 10 = .ok (.iconst 1, 1) := by decide +kernel
theorem dX6_orders_11 : decode cX6_orders 11 = .ok (.isub, 1) := by decide +kernel
theorem dX6_orders_12 : decode cX6_orders 12 = .ok (.istore 4, 2) := by decide +kernel
theorem dX6_orders_14 : decode cX6_orders 14 = .ok (.iload_n 2, 1) := by decide +kernel
theorem dX6_orders_15 : decode cX6_orders 15 = .ok (.istore 5, 2) := by decide +kernel
theorem dX6_orders_17 : decode cX6_orders 17 = .ok (.iload_n 1, 1) := by decide +kernel
theorem dX6_orders_18 : decode cX6_orders 18 = .ok (.istore 6, 2) := by decide +kernel
theorem dX6_orders_20 : decode cX6_orders 20 = .ok (.iconst 0, 1) := by decide +kernel
theorem dX6_orders_21 : decode cX6_orders 21 = .ok (.istore 7, 2) := by decide +kernel
theorem dX6_orders_23 : decode cX6_orders 23 = .ok (.iload 7, 2) := by decide +kernel
theorem dX6_orders_25 : decode cX6_orders 25 = .ok (.iload_n 3, 1) := by decide +kernel
theorem dX6_orders_26 : decode cX6_orders 26 = .ok (.if_icmp .ge 58, 3) := by decide +kernel
theorem dX6_orders_29 : decode cX6_orders 29 = .ok (.iload 5, 2) := by decide +kernel
theorem dX6_orders_31 : decode cX6_orders 31 = .ok (.iload_n 3, 1) := by decide +kernel
theorem dX6_orders_32 : decode cX6_orders 32 = .ok (.iload 7, 2) := by decide +kernel
theorem dX6_orders_34 : decode cX6_orders 34 = .ok (.isub, 1) := by decide +kernel
theorem dX6_orders_35 : decode cX6_orders 35 = .ok (.idiv, 1) := by decide +kernel
theorem dX6_orders_36 : decode cX6_orders 36 = .ok (.istore 5, 2) := by decide +kernel
theorem dX6_orders_38 : decode cX6_orders 38 = .ok (.aload_n 0, 1) := by decide +kernel
theorem dX6_orders_39 : decode cX6_orders 39 = .ok (.getfield 28, 3) := by decide +kernel
theorem dX6_orders_42 : decode cX6_orders 42 = .ok (.iload 7, 2) := by decide +kernel
theorem dX6_orders_44 : decode cX6_orders 44 = .ok (.iload 4, 2) := by decide +kernel
theorem dX6_orders_46 : decode cX6_orders 46 = .ok (.iload 6, 2) := by decide +kernel
theorem dX6_orders_48 : decode cX6_orders 48 = .ok (.iload 5, 2) := by decide +kernel
theorem dX6_orders_50 : decode cX6_orders 50 = .ok (.idiv, 1) := by decide +kernel
theorem dX6_orders_51 : decode cX6_orders 51 = .ok (.invokestatic 186, 3) := by decide +kernel
theorem dX6_orders_54 : decode cX6_orders 54 = .ok (.iastore, 1) := by decide +kernel
theorem dX6_orders_55 : decode cX6_orders 55 = .ok (.iload 6, 2) := by decide +kernel
theorem dX6_orders_57 : decode cX6_orders 57 = .ok (.iload 5, 2) := by decide +kernel
theorem dX6_orders_59 : decode cX6_orders 59 = .ok (.irem, 1) := by decide +kernel
theorem dX6_orders_60 : decode cX6_orders 60 = .ok (.istore 6, 2) := by decide +kernel
theorem dX6_orders_62 : decode cX6_orders 62 = .ok (.iload 4, 2) := by decide +kernel
theorem dX6_orders_64 : decode cX6_orders 64 = .ok (.iconst 1, 1) := by decide +kernel
theorem dX6_orders_65 : decode cX6_orders 65 = .ok (.aload_n 0, 1) := by decide +kernel
theorem dX6_orders_66 : decode cX6_orders 66 = .ok (.getfield 28, 3) := by decide +kernel
theorem dX6_orders_69 : decode cX6_orders 69 = .ok (.iload 7, 2) := by decide +kernel
theorem dX6_orders_71 : decode cX6_orders 71 = .ok (.iaload, 1) := by decide +kernel
theorem dX6_orders_72 : decode cX6_orders 72 = .ok (.ishl, 1) := by decide +kernel
theorem dX6_orders_73 : decode cX6_orders 73 = .ok (.iconst (-1), 1) := by decide +kernel
theorem dX6_orders_74 : decode cX6_orders 74 = .ok (.ixor, 1) := by decide +kernel
theorem dX6_orders_75 : decode cX6_orders 75 = .ok (.iand, 1) := by decide +kernel
theorem dX6_orders_76 : decode cX6_orders 76 = .ok (.istore 4, 2) := by decide +kernel
theorem dX6_orders_78 : decode cX6_orders 78 = .ok (.iinc 7 1, 3) := by decide +kernel
theorem dX6_orders_81 : decode cX6_orders 81 = .ok (.goto (-58), 3) := by decide +kernel
theorem dX6_orders_84 : decode cX6_orders 84 = .ok (.return_, 1) := by decide +kernel
set_option maxRecDepth 20000 in
theorem ggX6_seats_X6_isDesk : GoodIn wsX6_seats wsX6_isDesk := goodIn_r _ [7, 8, 9, 10, 6, 11] (by decide +kernel) (by decide +kernel)
set_option maxRecDepth 20000 in
theorem gX6_seats_X6_isDesk : GoodIn wsX6_seats (va_wsS RX6 86 yX6_isDesk wsX6_isDesk) := goodIn_app (goodIn_of _ (by decide +kernel)) ggX6_seats_X6_isDesk
set_option maxRecDepth 20000 in
theorem ggX6_seats_X6_isForce : GoodIn wsX6_seats wsX6_isForce := goodIn_r _ [14, 15, 9, 10, 6, 11] (by decide +kernel) (by decide +kernel)
set_option maxRecDepth 20000 in
theorem gX6_seats_X6_isForce : GoodIn wsX6_seats (va_wsS RX6 150 yX6_isForce wsX6_isForce) := goodIn_app (goodIn_of _ (by decide +kernel)) ggX6_seats_X6_isForce
set_option maxRecDepth 20000 in
theorem ggX6_seats_X6_isClerk : GoodIn wsX6_seats wsX6_isClerk := goodIn_r _ [19, 1, 9, 10, 6, 11, 74, 75, 76, 77, 78, 79, 80, 81, 82, 83, 84, 85, 86, 87, 88, 89, 90, 91, 92, 93] (by decide +kernel) (by decide +kernel)
set_option maxRecDepth 20000 in
theorem gX6_seats_X6_isClerk : GoodIn wsX6_seats (wsV RX6 93 RX6 yX6_isClerk wsX6_isClerk) := goodIn_app (goodIn_of _ (by decide +kernel)) ggX6_seats_X6_isClerk
set_option maxRecDepth 20000 in
theorem ggX6_seats_X6_asides : GoodIn wsX6_seats wsX6_asides := goodIn_r _ [23, 2, 1, 74, 75, 76, 77, 78, 79, 80, 81, 82, 83, 84, 85, 86, 87, 88, 89, 90, 91, 92, 93] (by decide +kernel) (by decide +kernel)
set_option maxRecDepth 20000 in
theorem gX6_seats_X6_asides : GoodIn wsX6_seats (wsV RX6 165 RX6 yX6_asides wsX6_asides) := goodIn_app (goodIn_of _ (by decide +kernel)) ggX6_seats_X6_asides
set_option maxRecDepth 20000 in
theorem ggX6_seats_X6_orders : GoodIn wsX6_seats wsX6_orders := goodIn_r _ [27, 1, 3, 28, 29, 6, 30, 74, 75, 76, 77, 78, 79, 80, 81, 82, 83, 84, 85, 86, 87, 88, 89, 90, 91, 92, 93] (by decide +kernel) (by decide +kernel)
set_option maxRecDepth 20000 in
theorem gX6_seats_X6_orders : GoodIn wsX6_seats (wsV RX6 189 RX6 yX6_orders wsX6_orders) := goodIn_app (goodIn_of _ (by decide +kernel)) ggX6_seats_X6_orders
set_option maxRecDepth 20000 in
theorem ggX6_seats_X6_costs : GoodIn wsX6_seats wsX6_costs := goodIn_r _ [34, 35, 36, 37, 38, 6, 39, 1, 40, 41, 42, 43, 44, 45, 46, 47, 48, 49, 50, 51, 52, 53, 54, 55, 56, 57, 58, 59, 60, 61, 62, 63, 64, 65, 66, 67, 68, 69, 70, 71, 72, 73, 2, 74, 75, 76, 77, 78, 79, 80, 81, 82, 83, 84, 85, 86, 87, 88, 89, 90, 91, 92, 93] (by decide +kernel) (by decide +kernel)
set_option maxRecDepth 20000 in
theorem gX6_seats_X6_costs : GoodIn wsX6_seats (wsV RX6 178 RX6 yX6_costs wsX6_costs) := goodIn_app (goodIn_of _ (by decide +kernel)) ggX6_seats_X6_costs
theorem dX6_seats_0 : decode cX6_seats 0 = .ok (.iload_n 1, 1) := by decide +kernel
theorem dX6_seats_1 : decode cX6_seats 1 = .ok (.invokestatic 86, 3) := by decide +kernel
theorem dX6_seats_4 : decode cX6_seats 4 = .ok (.ifCond .eq 24, 3) := by decide +kernel
theorem dX6_seats_7 : decode cX6_seats 7 = .ok (.iload_n 2, 1) := by decide +kernel
theorem dX6_seats_8 : decode cX6_seats 8 = .ok (.invokestatic 150, 3) := by decide +kernel
theorem dX6_seats_11 : decode cX6_seats 11 = .ok (.ifCond .eq 17, 3) := by decide +kernel
theorem dX6_seats_14 : decode cX6_seats 14 = .ok (.iload_n 3, 1) := by decide +kernel
theorem dX6_seats_15 : decode cX6_seats 15 = .ok (.bipush (-4), 2) := by decide +kernel
theorem dX6_seats_17 : decode cX6_seats 17 = .ok (.if_icmp .eq 13, 3) := by decide +kernel
theorem dX6_seats_20 : decode cX6_seats 20 = .ok (.aload_n 0, 1) := by decide +kernel
theorem dX6_seats_21 : decode cX6_seats 21 = .ok (.iload_n 3, 1) := by decide +kernel
theorem dX6_seats_22 : decode cX6_seats 22 = .ok (.invokevirtual 93, 3) := by decide +kernel
theorem dX6_seats_25 : decode cX6_seats 25 = .ok (.ifCond .ne 5, 3) := by decide +kernel
theorem dX6_seats_28 : decode cX6_seats 28 = .ok (.iconst (-1), 1) := by decide +kernel
theorem dX6_seats_29 : decode cX6_seats 29 = .ok (.ireturn, 1) := by decide +kernel
theorem dX6_seats_30 : decode cX6_seats 30 = .ok (.iconst 1, 1) := by decide +kernel
theorem dX6_seats_31 : decode cX6_seats 31 = .ok (.istore 4, 2) := by decide +kernel
theorem dX6_seats_33 : decode cX6_seats 33 = .ok (.iconst 2, 1) := by decide +kernel
theorem dX6_seats_34 : decode cX6_seats 34 = .ok (.istore 5, 2) := by decide +kernel
theorem dX6_seats_36 : decode cX6_seats 36 = .ok (.iload 5, 2) := by decide +kernel
theorem dX6_seats_38 : decode cX6_seats 38 = .ok (.aload_n 0, 1) := by decide +kernel
theorem dX6_seats_39 : decode cX6_seats 39 = .ok (.getfield 7, 3) := by decide +kernel
theorem dX6_seats_42 : decode cX6_seats 42 = .ok (.iconst 0, 1) := by decide +kernel
theorem dX6_seats_43 : decode cX6_seats 43 = .ok (.iaload, 1) := by decide +kernel
theorem dX6_seats_44 : decode cX6_seats 44 = .ok (.if_icmp .gt 16, 3) := by decide +kernel
theorem dX6_seats_47 : decode cX6_seats 47 = .ok (.iload 4, 2) := by decide +kernel
theorem dX6_seats_49 : decode cX6_seats 49 = .ok (.iload 5, 2) := by decide +kernel
theorem dX6_seats_51 : decode cX6_seats 51 = .ok (.imul, 1) := by decide +kernel
theorem dX6_seats_52 : decode cX6_seats 52 = .ok (.istore 4, 2) := by decide +kernel
theorem dX6_seats_54 : decode cX6_seats 54 = .ok (.iinc 5 1, 3) := by decide +kernel
theorem dX6_seats_57 : decode cX6_seats 57 = .ok (.goto (-21), 3) := by decide +kernel
theorem dX6_seats_60 : decode cX6_seats 60 = .ok (.iconst 0, 1) := by decide +kernel
theorem dX6_seats_61 : decode cX6_seats 61 = .ok (.istore 5, 2) := by decide +kernel
theorem dX6_seats_63 : decode cX6_seats 63 = .ok (.iconst (-1), 1) := by decide +kernel
theorem dX6_seats_64 : decode cX6_seats 64 = .ok (.istore 6, 2) := by decide +kernel
theorem dX6_seats_66 : decode cX6_seats 66 = .ok (.aload_n 0, 1) := by decide +kernel
theorem dX6_seats_67 : decode cX6_seats 67 = .ok (.invokevirtual 165, 3) := by decide +kernel
theorem dX6_seats_70 : decode cX6_seats 70 = .ok (.iconst 0, 1) := by decide +kernel
theorem dX6_seats_71 : decode cX6_seats 71 = .ok (.istore 7, 2) := by decide +kernel
theorem dX6_seats_73 : decode cX6_seats 73 = .ok (.iload 7, 2) := by decide +kernel
theorem dX6_seats_75 : decode cX6_seats 75 = .ok (.iload 4, 2) := by decide +kernel
theorem dX6_seats_77 : decode cX6_seats 77 = .ok (.if_icmp .ge 123, 3) := by decide +kernel
theorem dX6_seats_80 : decode cX6_seats 80 = .ok (.aload_n 0, 1) := by decide +kernel
theorem dX6_seats_81 : decode cX6_seats 81 = .ok (.iload 7, 2) := by decide +kernel
theorem dX6_seats_83 : decode cX6_seats 83 = .ok (.iload 4, 2) := by decide +kernel
theorem dX6_seats_85 : decode cX6_seats 85 = .ok (.invokevirtual 189, 3) := by decide +kernel
theorem dX6_seats_88 : decode cX6_seats 88 = .ok (.iconst 0, 1) := by decide +kernel
theorem dX6_seats_89 : decode cX6_seats 89 = .ok (.istore 8, 2) := by decide +kernel
theorem dX6_seats_91 : decode cX6_seats 91 = .ok (.iload 8, 2) := by decide +kernel
theorem dX6_seats_93 : decode cX6_seats 93 = .ok (.aload_n 0, 1) := by decide +kernel
theorem dX6_seats_94 : decode cX6_seats 94 = .ok (.getfield 7, 3) := by decide +kernel
theorem dX6_seats_97 : decode cX6_seats 97 = .ok (.iconst 0, 1) := by decide +kernel
theorem dX6_seats_98 : decode cX6_seats 98 = .ok (.iaload, 1) := by decide +kernel
theorem dX6_seats_99 : decode cX6_seats 99 = .ok (.if_icmp .ge 40, 3) := by decide +kernel
theorem dX6_seats_102 : decode cX6_seats 102 = .ok (.aload_n 0, 1) := by decide +kernel
theorem dX6_seats_103 : decode cX6_seats 103 = .ok (.getfield 7, 3) := by decide +kernel
theorem dX6_seats_106 : decode cX6_seats 106 = .ok (.iconst 5, 1) := by decide +kernel
theorem dX6_seats_107 : decode cX6_seats 107 = .ok (.iconst 5, 1) := by decide +kernel
theorem dX6_seats_108 : decode cX6_seats 108 = .ok (.iload 8, 2) := by decide +kernel
theorem dX6_seats_110 : decode cX6_seats 110 = .ok (.imul, 1) := by decide +kernel
theorem dX6_seats_111 : decode cX6_seats 111 = .ok (.iadd, 1) := by decide +kernel
theorem dX6_seats_112 : decode cX6_seats 112 = .ok (.iconst 1, 1) := by decide +kernel
theorem dX6_seats_113 : decode cX6_seats 113 = .ok (.iadd, 1) := by decide +kernel
theorem dX6_seats_114 : decode cX6_seats 114 = .ok (.aload_n 0, 1) := by decide +kernel
theorem dX6_seats_115 : decode cX6_seats 115 = .ok (.getfield 25, 3) := by decide +kernel
theorem dX6_seats_118 : decode cX6_seats 118 = .ok (.iconst 5, 1) := by decide +kernel
theorem dX6_seats_119 : decode cX6_seats 119 = .ok (.iconst 5, 1) := by decide +kernel
theorem dX6_seats_120 : decode cX6_seats 120 = .ok (.aload_n 0, 1) := by decide +kernel
theorem dX6_seats_121 : decode cX6_seats 121 = .ok (.getfield 28, 3) := by decide +kernel
theorem dX6_seats_124 : decode cX6_seats 124 = .ok (.iload 8, 2) := by decide +kernel
theorem dX6_seats_126 : decode cX6_seats 126 = .ok (.iaload, 1) := by decide +kernel
theorem dX6_seats_127 : decode cX6_seats 127 = .ok (.imul, 1) := by decide +kernel
theorem dX6_seats_128 : decode cX6_seats 128 = .ok (.iadd, 1) := by decide +kernel
theorem dX6_seats_129 : decode cX6_seats 129 = .ok (.iconst 1, 1) := by decide +kernel
theorem dX6_seats_130 : decode cX6_seats 130 = .ok (.iadd, 1) := by decide +kernel
theorem dX6_seats_131 : decode cX6_seats 131 = .ok (.iaload, 1) := by decide +kernel
theorem dX6_seats_132 : decode cX6_seats 132 = .ok (.iastore, 1) := by decide +kernel
theorem dX6_seats_133 : decode cX6_seats 133 = .ok (.iinc 8 1, 3) := by decide +kernel
theorem dX6_seats_136 : decode cX6_seats 136 = .ok (.goto (-45), 3) := by decide +kernel
theorem dX6_seats_139 : decode cX6_seats 139 = .ok (.aload_n 0, 1) := by decide +kernel
theorem dX6_seats_140 : decode cX6_seats 140 = .ok (.iload_n 1, 1) := by decide +kernel
theorem dX6_seats_141 : decode cX6_seats 141 = .ok (.iload_n 2, 1) := by decide +kernel
theorem dX6_seats_142 : decode cX6_seats 142 = .ok (.invokevirtual 178, 3) := by decide +kernel
theorem dX6_seats_145 : decode cX6_seats 145 = .ok (.istore 8, 2) := by decide +kernel
theorem dX6_seats_147 : decode cX6_seats 147 = .ok (.iload 6, 2) := by decide +kernel
theorem dX6_seats_149 : decode cX6_seats 149 = .ok (.ifCond .lt 10, 3) := by decide +kernel
theorem dX6_seats_152 : decode cX6_seats 152 = .ok (.iload 8, 2) := by decide +kernel
theorem dX6_seats_154 : decode cX6_seats 154 = .ok (.iload 6, 2) := by decide +kernel
theorem dX6_seats_156 : decode cX6_seats 156 = .ok (.if_icmp .ge 7, 3) := by decide +kernel
theorem dX6_seats_159 : decode cX6_seats 159 = .ok (.iconst 1, 1) := by decide +kernel
theorem dX6_seats_160 : decode cX6_seats 160 = .ok (.goto 4, 3) := by decide +kernel
theorem dX6_seats_163 : decode cX6_seats 163 = .ok (.iconst 0, 1) := by decide +kernel
theorem dX6_seats_164 : decode cX6_seats 164 = .ok (.istore 9, 2) := by decide +kernel
theorem dX6_seats_166 : decode cX6_seats 166 = .ok (.iload 9, 2) := by decide +kernel
theorem dX6_seats_168 : decode cX6_seats 168 = .ok (.ifCond .eq 8, 3) := by decide +kernel
theorem dX6_seats_171 : decode cX6_seats 171 = .ok (.iload 7, 2) := by decide +kernel
theorem dX6_seats_173 : decode cX6_seats 173 = .ok (.goto 5, 3) := by decide +kernel
theorem dX6_seats_176 : decode cX6_seats 176 = .ok (.iload 5, 2) := by decide +kernel
theorem dX6_seats_178 : decode cX6_seats 178 = .ok (.istore 5, 2) := by decide +kernel
theorem dX6_seats_180 : decode cX6_seats 180 = .ok (.iload 9, 2) := by decide +kernel
theorem dX6_seats_182 : decode cX6_seats 182 = .ok (.ifCond .eq 8, 3) := by decide +kernel
theorem dX6_seats_185 : decode cX6_seats 185 = .ok (.iload 8, 2) := by decide +kernel
theorem dX6_seats_187 : decode cX6_seats 187 = .ok (.goto 5, 3) := by decide +kernel
theorem dX6_seats_190 : decode cX6_seats 190 = .ok (.iload 6, 2) := by decide +kernel
theorem dX6_seats_192 : decode cX6_seats 192 = .ok (.istore 6, 2) := by decide +kernel
theorem dX6_seats_194 : decode cX6_seats 194 = .ok (.iinc 7 1, 3) := by decide +kernel
theorem dX6_seats_197 : decode cX6_seats 197 = .ok (.goto (-124), 3) := by decide +kernel
theorem dX6_seats_200 : decode cX6_seats 200 = .ok (.iload_n 3, 1) := by decide +kernel
theorem dX6_seats_201 : decode cX6_seats 201 = .ok (.bipush (-4), 2) := by decide +kernel
theorem dX6_seats_203 : decode cX6_seats 203 = .ok (.if_icmp .ne 6, 3) := by decide +kernel
theorem dX6_seats_206 : decode cX6_seats 206 = .ok (.iload 6, 2) := by decide +kernel
theorem dX6_seats_208 : decode cX6_seats 208 = .ok (.ireturn, 1) := by decide +kernel
theorem dX6_seats_209 : decode cX6_seats 209 = .ok (.aload_n 0, 1) := by decide +kernel
theorem dX6_seats_210 : decode cX6_seats 210 = .ok (.iload 5, 2) := by decide +kernel
theorem dX6_seats_212 : decode cX6_seats 212 = .ok (.iload 4, 2) := by decide +kernel
theorem dX6_seats_214 : decode cX6_seats 214 = .ok (.invokevirtual 189, 3) := by decide +kernel
theorem dX6_seats_217 : decode cX6_seats 217 = .ok (.aload_n 0, 1) := by decide +kernel
theorem dX6_seats_218 : decode cX6_seats 218 = .ok (.getfield 28, 3) := by decide +kernel
theorem dX6_seats_221 : decode cX6_seats 221 = .ok (.iload_n 3, 1) := by decide +kernel
theorem dX6_seats_222 : decode cX6_seats 222 = .ok (.iaload, 1) := by decide +kernel
theorem dX6_seats_223 : decode cX6_seats 223 = .ok (.ireturn, 1) := by decide +kernel
set_option maxRecDepth 20000 in
theorem ggX6_stop_X6_isClerk : GoodIn wsX6_stop wsX6_isClerk := goodIn_r _ [6, 7, 8, 9, 5, 10, 58, 59, 60, 61, 62, 63, 64, 65, 66, 67, 68, 69, 70, 71, 72, 73, 74, 75, 76, 77] (by decide +kernel) (by decide +kernel)
set_option maxRecDepth 20000 in
theorem gX6_stop_X6_isClerk : GoodIn wsX6_stop (wsV RX6 93 RX6 yX6_isClerk wsX6_isClerk) := goodIn_app (goodIn_of _ (by decide +kernel)) ggX6_stop_X6_isClerk
set_option maxRecDepth 20000 in
theorem ggX6_stop_X6_isDesk : GoodIn wsX6_stop wsX6_isDesk := goodIn_r _ [13, 14, 8, 9, 5, 10] (by decide +kernel) (by decide +kernel)
set_option maxRecDepth 20000 in
theorem gX6_stop_X6_isDesk : GoodIn wsX6_stop (va_wsS RX6 86 yX6_isDesk wsX6_isDesk) := goodIn_app (goodIn_of _ (by decide +kernel)) ggX6_stop_X6_isDesk
set_option maxRecDepth 20000 in
theorem ggX6_stop_X6_isForce : GoodIn wsX6_stop wsX6_isForce := goodIn_r _ [17, 18, 8, 9, 5, 10] (by decide +kernel) (by decide +kernel)
set_option maxRecDepth 20000 in
theorem gX6_stop_X6_isForce : GoodIn wsX6_stop (va_wsS RX6 150 yX6_isForce wsX6_isForce) := goodIn_app (goodIn_of _ (by decide +kernel)) ggX6_stop_X6_isForce
set_option maxRecDepth 20000 in
theorem ggX6_stop_X6_in : GoodIn wsX6_stop wsX6_in := goodIn_r _ [10] (by decide +kernel) (by decide +kernel)
set_option maxRecDepth 20000 in
theorem gX6_stop_X6_in : GoodIn wsX6_stop (va_wsS RX6 47 yX6_in wsX6_in) := goodIn_app (goodIn_of _ (by decide +kernel)) ggX6_stop_X6_in
set_option maxRecDepth 20000 in
theorem ggX6_stop_X6_ash : GoodIn wsX6_stop wsX6_ash := goodIn_r _ [22, 23, 24, 25, 5, 26, 7, 58, 59, 60, 61, 62, 63, 64, 65, 66, 67, 68, 69, 70, 71, 72, 73, 74, 75, 76, 77] (by decide +kernel) (by decide +kernel)
set_option maxRecDepth 20000 in
theorem gX6_stop_X6_ash : GoodIn wsX6_stop (wsV RX6 63 RX6 yX6_ash wsX6_ash) := goodIn_app (goodIn_of _ (by decide +kernel)) ggX6_stop_X6_ash
set_option maxRecDepth 20000 in
theorem ggX6_stop_X6_asides : GoodIn wsX6_stop wsX6_asides := goodIn_r _ [30, 31, 7, 58, 59, 60, 61, 62, 63, 64, 65, 66, 67, 68, 69, 70, 71, 72, 73, 74, 75, 76, 77] (by decide +kernel) (by decide +kernel)
set_option maxRecDepth 20000 in
theorem gX6_stop_X6_asides : GoodIn wsX6_stop (wsV RX6 165 RX6 yX6_asides wsX6_asides) := goodIn_app (goodIn_of _ (by decide +kernel)) ggX6_stop_X6_asides
set_option maxRecDepth 20000 in
theorem ggX6_stop_X6_goesBy : GoodIn wsX6_stop wsX6_goesBy := goodIn_r _ [35, 7, 36, 37, 38, 5, 39, 23, 24, 25, 26, 19, 20, 21, 22, 58, 59, 60, 61, 62, 63, 64, 65, 66, 67, 68, 69, 70, 71, 72, 73, 74, 75, 76, 77] (by decide +kernel) (by decide +kernel)
set_option maxRecDepth 20000 in
theorem gX6_stop_X6_goesBy : GoodIn wsX6_stop (wsV RX6 147 RX6 yX6_goesBy wsX6_goesBy) := goodIn_app (goodIn_of _ (by decide +kernel)) ggX6_stop_X6_goesBy
set_option maxRecDepth 20000 in
theorem ggX6_stop_X6_shakes : GoodIn wsX6_stop wsX6_shakes := goodIn_r _ [43, 44, 45, 7, 46, 47, 48, 5, 49, 23, 24, 25, 26, 19, 20, 21, 22, 50, 51, 52, 53, 36, 37, 38, 39, 58, 59, 60, 61, 62, 63, 64, 65, 66, 67, 68, 69, 70, 71, 72, 73, 74, 75, 76, 77] (by decide +kernel) (by decide +kernel)
set_option maxRecDepth 20000 in
theorem gX6_stop_X6_shakes : GoodIn wsX6_stop (wsV RX6 153 RX6 yX6_shakes wsX6_shakes) := goodIn_app (goodIn_of _ (by decide +kernel)) ggX6_stop_X6_shakes
set_option maxRecDepth 20000 in
theorem ggX6_stop_X6_backs : GoodIn wsX6_stop wsX6_backs := goodIn_r _ [57, 7, 31, 58, 59, 60, 61, 62, 63, 64, 65, 66, 67, 68, 69, 70, 71, 72, 73, 74, 75, 76, 77] (by decide +kernel) (by decide +kernel)
set_option maxRecDepth 20000 in
theorem gX6_stop_X6_backs : GoodIn wsX6_stop (wsV RX6 172 RX6 yX6_backs wsX6_backs) := goodIn_app (goodIn_of _ (by decide +kernel)) ggX6_stop_X6_backs
theorem dX6_stop_0 : decode cX6_stop 0 = .ok (.aload_n 0, 1) := by decide +kernel
theorem dX6_stop_1 : decode cX6_stop 1 = .ok (.iload_n 1, 1) := by decide +kernel
theorem dX6_stop_2 : decode cX6_stop 2 = .ok (.invokevirtual 93, 3) := by decide +kernel
theorem dX6_stop_5 : decode cX6_stop 5 = .ok (.ifCond .eq 41, 3) := by decide +kernel
theorem dX6_stop_8 : decode cX6_stop 8 = .ok (.iload_n 2, 1) := by decide +kernel
theorem dX6_stop_9 : decode cX6_stop 9 = .ok (.invokestatic 86, 3) := by decide +kernel
theorem dX6_stop_12 : decode cX6_stop 12 = .ok (.ifCond .eq 34, 3) := by decide +kernel
theorem dX6_stop_15 : decode cX6_stop 15 = .ok (.iload_n 3, 1) := by decide +kernel
theorem dX6_stop_16 : decode cX6_stop 16 = .ok (.invokestatic 150, 3) := by decide +kernel
theorem dX6_stop_19 : decode cX6_stop 19 = .ok (.ifCond .eq 27, 3) := by decide +kernel
theorem dX6_stop_22 : decode cX6_stop 22 = .ok (.iload 4, 2) := by decide +kernel
theorem dX6_stop_24 : decode cX6_stop 24 = .ok (.i2l, 1) := by decide +kernel
theorem dX6_stop_25 : decode cX6_stop 25 = .ok (.lconst 1, 1) := by decide +kernel
theorem dX6_stop_26 : decode cX6_stop 26 = .ok (.ldc2_w 142, 3) := by decide +kernel
theorem dX6_stop_29 : decode cX6_stop 29 = .ok (.invokestatic 47, 3) := by decide +kernel
theorem dX6_stop_32 : decode cX6_stop 32 = .ok (.ifCond .eq 14, 3) := by decide +kernel
theorem dX6_stop_35 : decode cX6_stop 35 = .ok (.iload 5, 2) := by decide +kernel
theorem dX6_stop_37 : decode cX6_stop 37 = .ok (.i2l, 1) := by decide +kernel
theorem dX6_stop_38 : decode cX6_stop 38 = .ok (.lconst 0, 1) := by decide +kernel
theorem dX6_stop_39 : decode cX6_stop 39 = .ok (.lconst 1, 1) := by decide +kernel
theorem dX6_stop_40 : decode cX6_stop 40 = .ok (.invokestatic 47, 3) := by decide +kernel
theorem dX6_stop_43 : decode cX6_stop 43 = .ok (.ifCond .ne 5, 3) := by decide +kernel
theorem dX6_stop_46 : decode cX6_stop 46 = .ok (.iconst (-1), 1) := by decide +kernel
theorem dX6_stop_47 : decode cX6_stop 47 = .ok (.ireturn, 1) := by decide +kernel
theorem dX6_stop_48 : decode cX6_stop 48 = .ok (.iconst 0, 1) := by decide +kernel
theorem dX6_stop_49 : decode cX6_stop 49 = .ok (.istore 6, 2) := by decide +kernel
theorem dX6_stop_51 : decode cX6_stop 51 = .ok (.aload_n 0, 1) := by decide +kernel
theorem dX6_stop_52 : decode cX6_stop 52 = .ok (.iload_n 1, 1) := by decide +kernel
theorem dX6_stop_53 : decode cX6_stop 53 = .ok (.invokevirtual 63, 3) := by decide +kernel
theorem dX6_stop_56 : decode cX6_stop 56 = .ok (.istore 7, 2) := by decide +kernel
theorem dX6_stop_58 : decode cX6_stop 58 = .ok (.aload_n 0, 1) := by decide +kernel
theorem dX6_stop_59 : decode cX6_stop 59 = .ok (.invokevirtual 165, 3) := by decide +kernel
theorem dX6_stop_62 : decode cX6_stop 62 = .ok (.iconst 1, 1) := by decide +kernel
theorem dX6_stop_63 : decode cX6_stop 63 = .ok (.istore 8, 2) := by decide +kernel
theorem dX6_stop_65 : decode cX6_stop 65 = .ok (.iload 8, 2) := by decide +kernel
theorem dX6_stop_67 : decode cX6_stop 67 = .ok (.bipush 61, 2) := by decide +kernel
theorem dX6_stop_69 : decode cX6_stop 69 = .ok (.if_icmp .ge 69, 3) := by decide +kernel
theorem dX6_stop_72 : decode cX6_stop 72 = .ok (.aload_n 0, 1) := by decide +kernel
theorem dX6_stop_73 : decode cX6_stop 73 = .ok (.invokevirtual 147, 3) := by decide +kernel
theorem dX6_stop_76 : decode cX6_stop 76 = .ok (.iload 8, 2) := by decide +kernel
theorem dX6_stop_78 : decode cX6_stop 78 = .ok (.iload 4, 2) := by decide +kernel
theorem dX6_stop_80 : decode cX6_stop 80 = .ok (.irem, 1) := by decide +kernel
theorem dX6_stop_81 : decode cX6_stop 81 = .ok (.ifCond .ne 10, 3) := by decide +kernel
theorem dX6_stop_84 : decode cX6_stop 84 = .ok (.aload_n 0, 1) := by decide +kernel
theorem dX6_stop_85 : decode cX6_stop 85 = .ok (.iload_n 2, 1) := by decide +kernel
theorem dX6_stop_86 : decode cX6_stop 86 = .ok (.iload_n 3, 1) := by decide +kernel
theorem dX6_stop_87 : decode cX6_stop 87 = .ok (.invokevirtual 153, 3) := by decide +kernel
theorem dX6_stop_90 : decode cX6_stop 90 = .ok (.pop, 1) := by decide +kernel
theorem dX6_stop_91 : decode cX6_stop 91 = .ok (.aload_n 0, 1) := by decide +kernel
theorem dX6_stop_92 : decode cX6_stop 92 = .ok (.iload_n 1, 1) := by decide +kernel
theorem dX6_stop_93 : decode cX6_stop 93 = .ok (.invokevirtual 63, 3) := by decide +kernel
theorem dX6_stop_96 : decode cX6_stop 96 = .ok (.iload 7, 2) := by decide +kernel
theorem dX6_stop_98 : decode cX6_stop 98 = .ok (.if_icmp .le 8, 3) := by decide +kernel
theorem dX6_stop_101 : decode cX6_stop 101 = .ok (.iload 8, 2) := by decide +kernel
theorem dX6_stop_103 : decode cX6_stop 103 = .ok (.goto 5, 3) := by decide +kernel
theorem dX6_stop_106 : decode cX6_stop 106 = .ok (.iload 6, 2) := by decide +kernel
theorem dX6_stop_108 : decode cX6_stop 108 = .ok (.istore 6, 2) := by decide +kernel
theorem dX6_stop_110 : decode cX6_stop 110 = .ok (.aload_n 0, 1) := by decide +kernel
theorem dX6_stop_111 : decode cX6_stop 111 = .ok (.iload_n 1, 1) := by decide +kernel
theorem dX6_stop_112 : decode cX6_stop 112 = .ok (.invokevirtual 63, 3) := by decide +kernel
theorem dX6_stop_115 : decode cX6_stop 115 = .ok (.iload 7, 2) := by decide +kernel
theorem dX6_stop_117 : decode cX6_stop 117 = .ok (.if_icmp .le 11, 3) := by decide +kernel
theorem dX6_stop_120 : decode cX6_stop 120 = .ok (.aload_n 0, 1) := by decide +kernel
theorem dX6_stop_121 : decode cX6_stop 121 = .ok (.iload_n 1, 1) := by decide +kernel
theorem dX6_stop_122 : decode cX6_stop 122 = .ok (.invokevirtual 63, 3) := by decide +kernel
theorem dX6_stop_125 : decode cX6_stop 125 = .ok (.goto 5, 3) := by decide +kernel
theorem dX6_stop_128 : decode cX6_stop 128 = .ok (.iload 7, 2) := by decide +kernel
theorem dX6_stop_130 : decode cX6_stop 130 = .ok (.istore 7, 2) := by decide +kernel
theorem dX6_stop_132 : decode cX6_stop 132 = .ok (.iinc 8 1, 3) := by decide +kernel
theorem dX6_stop_135 : decode cX6_stop 135 = .ok (.goto (-70), 3) := by decide +kernel
theorem dX6_stop_138 : decode cX6_stop 138 = .ok (.aload_n 0, 1) := by decide +kernel
theorem dX6_stop_139 : decode cX6_stop 139 = .ok (.invokevirtual 172, 3) := by decide +kernel
theorem dX6_stop_142 : decode cX6_stop 142 = .ok (.iload 5, 2) := by decide +kernel
theorem dX6_stop_144 : decode cX6_stop 144 = .ok (.ifCond .ne 8, 3) := by decide +kernel
theorem dX6_stop_147 : decode cX6_stop 147 = .ok (.iload 6, 2) := by decide +kernel
theorem dX6_stop_149 : decode cX6_stop 149 = .ok (.goto 5, 3) := by decide +kernel
theorem dX6_stop_152 : decode cX6_stop 152 = .ok (.iload 7, 2) := by decide +kernel
theorem dX6_stop_154 : decode cX6_stop 154 = .ok (.ireturn, 1) := by decide +kernel
set_option maxRecDepth 20000 in
theorem ggX6_luck_X6_isClerk : GoodIn wsX6_luck wsX6_isClerk := goodIn_r _ [7, 2, 8, 9, 6, 10, 46, 47, 48, 49, 50, 51, 52, 53, 54, 55, 56, 57, 58, 59, 60, 61, 62, 63, 64, 65] (by decide +kernel) (by decide +kernel)
set_option maxRecDepth 20000 in
theorem gX6_luck_X6_isClerk : GoodIn wsX6_luck (wsV RX6 93 RX6 yX6_isClerk wsX6_isClerk) := goodIn_app (goodIn_of _ (by decide +kernel)) ggX6_luck_X6_isClerk
set_option maxRecDepth 20000 in
theorem ggX6_luck_X6_in : GoodIn wsX6_luck wsX6_in := goodIn_r _ [10] (by decide +kernel) (by decide +kernel)
set_option maxRecDepth 20000 in
theorem gX6_luck_X6_in : GoodIn wsX6_luck (va_wsS RX6 47 yX6_in wsX6_in) := goodIn_app (goodIn_of _ (by decide +kernel)) ggX6_luck_X6_in
set_option maxRecDepth 20000 in
theorem ggX6_luck_X6_asides : GoodIn wsX6_luck wsX6_asides := goodIn_r _ [14, 15, 2, 46, 47, 48, 49, 50, 51, 52, 53, 54, 55, 56, 57, 58, 59, 60, 61, 62, 63, 64, 65] (by decide +kernel) (by decide +kernel)
set_option maxRecDepth 20000 in
theorem gX6_luck_X6_asides : GoodIn wsX6_luck (wsV RX6 165 RX6 yX6_asides wsX6_asides) := goodIn_app (goodIn_of _ (by decide +kernel)) ggX6_luck_X6_asides
set_option maxRecDepth 20000 in
theorem ggX6_luck_X6_told : GoodIn wsX6_luck wsX6_told := goodIn_r _ [19, 2, 46, 47, 48, 49, 50, 51, 52, 53, 54, 55, 56, 57, 58, 59, 60, 61, 62, 63, 64, 65] (by decide +kernel) (by decide +kernel)
set_option maxRecDepth 20000 in
theorem gX6_luck_X6_told : GoodIn wsX6_luck (wsV RX6 55 RX6 yX6_told wsX6_told) := goodIn_app (goodIn_of _ (by decide +kernel)) ggX6_luck_X6_told
set_option maxRecDepth 20000 in
theorem ggX6_luck_X6_shakes : GoodIn wsX6_luck wsX6_shakes := goodIn_r _ [23, 24, 25, 2, 26, 27, 28, 6, 29, 16, 17, 18, 19, 30, 31, 32, 33, 34, 35, 36, 37, 38, 39, 40, 41, 46, 47, 48, 49, 50, 51, 52, 53, 54, 55, 56, 57, 58, 59, 60, 61, 62, 63, 64, 65] (by decide +kernel) (by decide +kernel)
set_option maxRecDepth 20000 in
theorem gX6_luck_X6_shakes : GoodIn wsX6_luck (wsV RX6 153 RX6 yX6_shakes wsX6_shakes) := goodIn_app (goodIn_of _ (by decide +kernel)) ggX6_luck_X6_shakes
set_option maxRecDepth 20000 in
theorem ggX6_luck_X6_backs : GoodIn wsX6_luck wsX6_backs := goodIn_r _ [45, 2, 15, 46, 47, 48, 49, 50, 51, 52, 53, 54, 55, 56, 57, 58, 59, 60, 61, 62, 63, 64, 65] (by decide +kernel) (by decide +kernel)
set_option maxRecDepth 20000 in
theorem gX6_luck_X6_backs : GoodIn wsX6_luck (wsV RX6 172 RX6 yX6_backs wsX6_backs) := goodIn_app (goodIn_of _ (by decide +kernel)) ggX6_luck_X6_backs
theorem dX6_luck_0 : decode cX6_luck 0 = .ok (.aload_n 0, 1) := by decide +kernel
theorem dX6_luck_1 : decode cX6_luck 1 = .ok (.iload_n 1, 1) := by decide +kernel
theorem dX6_luck_2 : decode cX6_luck 2 = .ok (.invokevirtual 93, 3) := by decide +kernel
theorem dX6_luck_5 : decode cX6_luck 5 = .ok (.ifCond .eq 25, 3) := by decide +kernel
theorem dX6_luck_8 : decode cX6_luck 8 = .ok (.iload_n 2, 1) := by decide +kernel
theorem dX6_luck_9 : decode cX6_luck 9 = .ok (.i2l, 1) := by decide +kernel
theorem dX6_luck_10 : decode cX6_luck 10 = .ok (.lconst 0, 1) := by decide +kernel
theorem dX6_luck_11 : decode cX6_luck 11 = .ok (.ldc2_w 193, 3) := by decide +kernel
theorem dX6_luck_14 : decode cX6_luck 14 = .ok (.invokestatic 47, 3) := by decide +kernel
theorem dX6_luck_17 : decode cX6_luck 17 = .ok (.ifCond .eq 13, 3) := by decide +kernel
theorem dX6_luck_20 : decode cX6_luck 20 = .ok (.iload_n 3, 1) := by decide +kernel
theorem dX6_luck_21 : decode cX6_luck 21 = .ok (.i2l, 1) := by decide +kernel
theorem dX6_luck_22 : decode cX6_luck 22 = .ok (.lconst 0, 1) := by decide +kernel
theorem dX6_luck_23 : decode cX6_luck 23 = .ok (.lconst 1, 1) := by decide +kernel
theorem dX6_luck_24 : decode cX6_luck 24 = .ok (.invokestatic 47, 3) := by decide +kernel
theorem dX6_luck_27 : decode cX6_luck 27 = .ok (.ifCond .ne 5, 3) := by decide +kernel
theorem dX6_luck_30 : decode cX6_luck 30 = .ok (.iconst (-1), 1) := by decide +kernel
theorem dX6_luck_31 : decode cX6_luck 31 = .ok (.ireturn, 1) := by decide +kernel
theorem dX6_luck_32 : decode cX6_luck 32 = .ok (.iconst 0, 1) := by decide +kernel
theorem dX6_luck_33 : decode cX6_luck 33 = .ok (.istore 4, 2) := by decide +kernel
theorem dX6_luck_35 : decode cX6_luck 35 = .ok (.iconst 0, 1) := by decide +kernel
theorem dX6_luck_36 : decode cX6_luck 36 = .ok (.istore 5, 2) := by decide +kernel
theorem dX6_luck_38 : decode cX6_luck 38 = .ok (.aload_n 0, 1) := by decide +kernel
theorem dX6_luck_39 : decode cX6_luck 39 = .ok (.invokevirtual 165, 3) := by decide +kernel
theorem dX6_luck_42 : decode cX6_luck 42 = .ok (.iconst 0, 1) := by decide +kernel
theorem dX6_luck_43 : decode cX6_luck 43 = .ok (.istore 6, 2) := by decide +kernel
theorem dX6_luck_45 : decode cX6_luck 45 = .ok (.iload 6, 2) := by decide +kernel
theorem dX6_luck_47 : decode cX6_luck 47 = .ok (.iconst 1, 1) := by decide +kernel
theorem dX6_luck_48 : decode cX6_luck 48 = .ok (.aload_n 0, 1) := by decide +kernel
theorem dX6_luck_49 : decode cX6_luck 49 = .ok (.getfield 7, 3) := by decide +kernel
theorem dX6_luck_52 : decode cX6_luck 52 = .ok (.iconst 0, 1) := by decide +kernel
theorem dX6_luck_53 : decode cX6_luck 53 = .ok (.iaload, 1) := by decide +kernel
theorem dX6_luck_54 : decode cX6_luck 54 = .ok (.ishl, 1) := by decide +kernel
theorem dX6_luck_55 : decode cX6_luck 55 = .ok (.if_icmp .ge 149, 3) := by decide +kernel
theorem dX6_luck_58 : decode cX6_luck 58 = .ok (.iload 6, 2) := by decide +kernel
theorem dX6_luck_60 : decode cX6_luck 60 = .ok (.iload_n 1, 1) := by decide +kernel
theorem dX6_luck_61 : decode cX6_luck 61 = .ok (.ishr, 1) := by decide +kernel
theorem dX6_luck_62 : decode cX6_luck 62 = .ok (.iconst 1, 1) := by decide +kernel
theorem dX6_luck_63 : decode cX6_luck 63 = .ok (.iand, 1) := by decide +kernel
theorem dX6_luck_64 : decode cX6_luck 64 = .ok (.ifCond .ne 134, 3) := by decide +kernel
theorem dX6_luck_67 : decode cX6_luck 67 = .ok (.iconst 1, 1) := by decide +kernel
theorem dX6_luck_68 : decode cX6_luck 68 = .ok (.istore 7, 2) := by decide +kernel
theorem dX6_luck_70 : decode cX6_luck 70 = .ok (.iconst 0, 1) := by decide +kernel
theorem dX6_luck_71 : decode cX6_luck 71 = .ok (.istore 8, 2) := by decide +kernel
theorem dX6_luck_73 : decode cX6_luck 73 = .ok (.iconst 0, 1) := by decide +kernel
theorem dX6_luck_74 : decode cX6_luck 74 = .ok (.istore 9, 2) := by decide +kernel
theorem dX6_luck_76 : decode cX6_luck 76 = .ok (.iload 9, 2) := by decide +kernel
theorem dX6_luck_78 : decode cX6_luck 78 = .ok (.aload_n 0, 1) := by decide +kernel
theorem dX6_luck_79 : decode cX6_luck 79 = .ok (.getfield 7, 3) := by decide +kernel
theorem dX6_luck_82 : decode cX6_luck 82 = .ok (.iconst 0, 1) := by decide +kernel
theorem dX6_luck_83 : decode cX6_luck 83 = .ok (.iaload, 1) := by decide +kernel
theorem dX6_luck_84 : decode cX6_luck 84 = .ok (.if_icmp .ge 82, 3) := by decide +kernel
theorem dX6_luck_87 : decode cX6_luck 87 = .ok (.iload 6, 2) := by decide +kernel
theorem dX6_luck_89 : decode cX6_luck 89 = .ok (.iload 9, 2) := by decide +kernel
theorem dX6_luck_91 : decode cX6_luck 91 = .ok (.ishr, 1) := by decide +kernel
theorem dX6_luck_92 : decode cX6_luck 92 = .ok (.iconst 1, 1) := by decide +kernel
theorem dX6_luck_93 : decode cX6_luck 93 = .ok (.iand, 1) := by decide +kernel
theorem dX6_luck_94 : decode cX6_luck 94 = .ok (.iconst 1, 1) := by decide +kernel
theorem dX6_luck_95 : decode cX6_luck 95 = .ok (.if_icmp .ne 7, 3) := by decide +kernel
theorem dX6_luck_98 : decode cX6_luck 98 = .ok (.iconst 1, 1) := by decide +kernel
theorem dX6_luck_99 : decode cX6_luck 99 = .ok (.goto 4, 3) := by decide +kernel
theorem dX6_luck_102 : decode cX6_luck 102 = .ok (.iconst 0, 1) := by decide +kernel
theorem dX6_luck_103 : decode cX6_luck 103 = .ok (.istore 10, 2) := by decide +kernel
theorem dX6_luck_105 : decode cX6_luck 105 = .ok (.iload 7, 2) := by decide +kernel
theorem dX6_luck_107 : decode cX6_luck 107 = .ok (.iload 9, 2) := by decide +kernel
theorem dX6_luck_109 : decode cX6_luck 109 = .ok (.iload_n 1, 1) := by decide +kernel
theorem dX6_luck_110 : decode cX6_luck 110 = .ok (.if_icmp .ne 7, 3) := by decide +kernel
theorem dX6_luck_113 : decode cX6_luck 113 = .ok (.iconst 1, 1) := by decide +kernel
theorem dX6_luck_114 : decode cX6_luck 114 = .ok (.goto 16, 3) := by decide +kernel
theorem dX6_luck_117 : decode cX6_luck 117 = .ok (.iload 10, 2) := by decide +kernel
theorem dX6_luck_119 : decode cX6_luck 119 = .ok (.ifCond .eq 7, 3) := by decide +kernel
theorem dX6_luck_122 : decode cX6_luck 122 = .ok (.iload_n 2, 1) := by decide +kernel
theorem dX6_luck_123 : decode cX6_luck 123 = .ok (.goto 7, 3) := by decide +kernel
theorem dX6_luck_126 : decode cX6_luck 126 = .ok (.bipush 10, 2) := by decide +kernel
theorem dX6_luck_128 : decode cX6_luck 128 = .ok (.iload_n 2, 1) := by decide +kernel
theorem dX6_luck_129 : decode cX6_luck 129 = .ok (.isub, 1) := by decide +kernel
theorem dX6_luck_130 : decode cX6_luck 130 = .ok (.imul, 1) := by decide +kernel
theorem dX6_luck_131 : decode cX6_luck 131 = .ok (.istore 7, 2) := by decide +kernel
theorem dX6_luck_133 : decode cX6_luck 133 = .ok (.iload 8, 2) := by decide +kernel
theorem dX6_luck_135 : decode cX6_luck 135 = .ok (.iload 10, 2) := by decide +kernel
theorem dX6_luck_137 : decode cX6_luck 137 = .ok (.ifCond .eq 19, 3) := by decide +kernel
theorem dX6_luck_140 : decode cX6_luck 140 = .ok (.aload_n 0, 1) := by decide +kernel
theorem dX6_luck_141 : decode cX6_luck 141 = .ok (.aload_n 0, 1) := by decide +kernel
theorem dX6_luck_142 : decode cX6_luck 142 = .ok (.iload 9, 2) := by decide +kernel
theorem dX6_luck_144 : decode cX6_luck 144 = .ok (.iconst 1, 1) := by decide +kernel
theorem dX6_luck_145 : decode cX6_luck 145 = .ok (.invokevirtual 55, 3) := by decide +kernel
theorem dX6_luck_148 : decode cX6_luck 148 = .ok (.bipush 9, 2) := by decide +kernel
theorem dX6_luck_150 : decode cX6_luck 150 = .ok (.invokevirtual 153, 3) := by decide +kernel
theorem dX6_luck_153 : decode cX6_luck 153 = .ok (.goto 4, 3) := by decide +kernel
theorem dX6_luck_156 : decode cX6_luck 156 = .ok (.iconst 0, 1) := by decide +kernel
theorem dX6_luck_157 : decode cX6_luck 157 = .ok (.ior, 1) := by decide +kernel
theorem dX6_luck_158 : decode cX6_luck 158 = .ok (.istore 8, 2) := by decide +kernel
theorem dX6_luck_160 : decode cX6_luck 160 = .ok (.iinc 9 1, 3) := by decide +kernel
theorem dX6_luck_163 : decode cX6_luck 163 = .ok (.goto (-87), 3) := by decide +kernel
theorem dX6_luck_166 : decode cX6_luck 166 = .ok (.iload 5, 2) := by decide +kernel
theorem dX6_luck_168 : decode cX6_luck 168 = .ok (.iload 7, 2) := by decide +kernel
theorem dX6_luck_170 : decode cX6_luck 170 = .ok (.iadd, 1) := by decide +kernel
theorem dX6_luck_171 : decode cX6_luck 171 = .ok (.istore 5, 2) := by decide +kernel
theorem dX6_luck_173 : decode cX6_luck 173 = .ok (.iload 4, 2) := by decide +kernel
theorem dX6_luck_175 : decode cX6_luck 175 = .ok (.iload 8, 2) := by decide +kernel
theorem dX6_luck_177 : decode cX6_luck 177 = .ok (.iload_n 1, 1) := by decide +kernel
theorem dX6_luck_178 : decode cX6_luck 178 = .ok (.ishr, 1) := by decide +kernel
theorem dX6_luck_179 : decode cX6_luck 179 = .ok (.iconst 1, 1) := by decide +kernel
theorem dX6_luck_180 : decode cX6_luck 180 = .ok (.iand, 1) := by decide +kernel
theorem dX6_luck_181 : decode cX6_luck 181 = .ok (.iconst 1, 1) := by decide +kernel
theorem dX6_luck_182 : decode cX6_luck 182 = .ok (.if_icmp .ne 8, 3) := by decide +kernel
theorem dX6_luck_185 : decode cX6_luck 185 = .ok (.iload 7, 2) := by decide +kernel
theorem dX6_luck_187 : decode cX6_luck 187 = .ok (.goto 4, 3) := by decide +kernel
theorem dX6_luck_190 : decode cX6_luck 190 = .ok (.iconst 0, 1) := by decide +kernel
theorem dX6_luck_191 : decode cX6_luck 191 = .ok (.iadd, 1) := by decide +kernel
theorem dX6_luck_192 : decode cX6_luck 192 = .ok (.istore 4, 2) := by decide +kernel
theorem dX6_luck_194 : decode cX6_luck 194 = .ok (.aload_n 0, 1) := by decide +kernel
theorem dX6_luck_195 : decode cX6_luck 195 = .ok (.invokevirtual 172, 3) := by decide +kernel
theorem dX6_luck_198 : decode cX6_luck 198 = .ok (.iinc 6 1, 3) := by decide +kernel
theorem dX6_luck_201 : decode cX6_luck 201 = .ok (.goto (-156), 3) := by decide +kernel
theorem dX6_luck_204 : decode cX6_luck 204 = .ok (.iload 4, 2) := by decide +kernel
theorem dX6_luck_206 : decode cX6_luck 206 = .ok (.istore 6, 2) := by decide +kernel
theorem dX6_luck_208 : decode cX6_luck 208 = .ok (.iload 5, 2) := by decide +kernel
theorem dX6_luck_210 : decode cX6_luck 210 = .ok (.istore 7, 2) := by decide +kernel
theorem dX6_luck_212 : decode cX6_luck 212 = .ok (.iload 7, 2) := by decide +kernel
theorem dX6_luck_214 : decode cX6_luck 214 = .ok (.ifCond .eq 21, 3) := by decide +kernel
theorem dX6_luck_217 : decode cX6_luck 217 = .ok (.iload 6, 2) := by decide +kernel
theorem dX6_luck_219 : decode cX6_luck 219 = .ok (.iload 7, 2) := by decide +kernel
theorem dX6_luck_221 : decode cX6_luck 221 = .ok (.irem, 1) := by decide +kernel
theorem dX6_luck_222 : decode cX6_luck 222 = .ok (.istore 8, 2) := by decide +kernel
theorem dX6_luck_224 : decode cX6_luck 224 = .ok (.iload 7, 2) := by decide +kernel
theorem dX6_luck_226 : decode cX6_luck 226 = .ok (.istore 6, 2) := by decide +kernel
theorem dX6_luck_228 : decode cX6_luck 228 = .ok (.iload 8, 2) := by decide +kernel
theorem dX6_luck_230 : decode cX6_luck 230 = .ok (.istore 7, 2) := by decide +kernel
theorem dX6_luck_232 : decode cX6_luck 232 = .ok (.goto (-20), 3) := by decide +kernel
theorem dX6_luck_235 : decode cX6_luck 235 = .ok (.iload_n 3, 1) := by decide +kernel
theorem dX6_luck_236 : decode cX6_luck 236 = .ok (.ifCond .ne 11, 3) := by decide +kernel
theorem dX6_luck_239 : decode cX6_luck 239 = .ok (.iload 4, 2) := by decide +kernel
theorem dX6_luck_241 : decode cX6_luck 241 = .ok (.iload 6, 2) := by decide +kernel
theorem dX6_luck_243 : decode cX6_luck 243 = .ok (.idiv, 1) := by decide +kernel
theorem dX6_luck_244 : decode cX6_luck 244 = .ok (.goto 8, 3) := by decide +kernel
theorem dX6_luck_247 : decode cX6_luck 247 = .ok (.iload 5, 2) := by decide +kernel
theorem dX6_luck_249 : decode cX6_luck 249 = .ok (.iload 6, 2) := by decide +kernel
theorem dX6_luck_251 : decode cX6_luck 251 = .ok (.idiv, 1) := by decide +kernel
theorem dX6_luck_252 : decode cX6_luck 252 = .ok (.ireturn, 1) := by decide +kernel
theorem dX6_image_0 : decode cX6_image 0 = .ok (.iconst 0, 1) := by decide +kernel
theorem dX6_image_1 : decode cX6_image 1 = .ok (.istore_n 1, 1) := by decide +kernel
theorem dX6_image_2 : decode cX6_image 2 = .ok (.iload_n 1, 1) := by decide +kernel
theorem dX6_image_3 : decode cX6_image 3 = .ok (.bipush 35, 2) := by decide +kernel
theorem dX6_image_5 : decode cX6_image 5 = .ok (.if_icmp .ge 21, 3) := by decide +kernel
theorem dX6_image_8 : decode cX6_image 8 = .ok (.aload_n 0, 1) := by decide +kernel
theorem dX6_image_9 : decode cX6_image 9 = .ok (.getfield 31, 3) := by decide +kernel
theorem dX6_image_12 : decode cX6_image 12 = .ok (.iload_n 1, 1) := by decide +kernel
theorem dX6_image_13 : decode cX6_image 13 = .ok (.aload_n 0, 1) := by decide +kernel
theorem dX6_image_14 : decode cX6_image 14 = .ok (.getfield 7, 3) := by decide +kernel
theorem dX6_image_17 : decode cX6_image 17 = .ok (.iload_n 1, 1) := by decide +kernel
theorem dX6_image_18 : decode cX6_image 18 = .ok (.iaload, 1) := by decide +kernel
theorem dX6_image_19 : decode cX6_image 19 = .ok (.iastore, 1) := by decide +kernel
theorem dX6_image_20 : decode cX6_image 20 = .ok (.iinc 1 1, 3) := by decide +kernel
theorem dX6_image_23 : decode cX6_image 23 = .ok (.goto (-21), 3) := by decide +kernel
theorem dX6_image_26 : decode cX6_image 26 = .ok (.iconst 0, 1) := by decide +kernel
theorem dX6_image_27 : decode cX6_image 27 = .ok (.istore_n 1, 1) := by decide +kernel
theorem dX6_image_28 : decode cX6_image 28 = .ok (.iload_n 1, 1) := by decide +kernel
theorem dX6_image_29 : decode cX6_image 29 = .ok (.bipush 112, 2) := by decide +kernel
theorem dX6_image_31 : decode cX6_image 31 = .ok (.if_icmp .ge 24, 3) := by decide +kernel
theorem dX6_image_34 : decode cX6_image 34 = .ok (.aload_n 0, 1) := by decide +kernel
theorem dX6_image_35 : decode cX6_image 35 = .ok (.getfield 31, 3) := by decide +kernel
theorem dX6_image_38 : decode cX6_image 38 = .ok (.bipush 35, 2) := by decide +kernel
theorem dX6_image_40 : decode cX6_image 40 = .ok (.iload_n 1, 1) := by decide +kernel
theorem dX6_image_41 : decode cX6_image 41 = .ok (.iadd, 1) := by decide +kernel
theorem dX6_image_42 : decode cX6_image 42 = .ok (.aload_n 0, 1) := by decide +kernel
theorem dX6_image_43 : decode cX6_image 43 = .ok (.getfield 22, 3) := by decide +kernel
theorem dX6_image_46 : decode cX6_image 46 = .ok (.iload_n 1, 1) := by decide +kernel
theorem dX6_image_47 : decode cX6_image 47 = .ok (.iaload, 1) := by decide +kernel
theorem dX6_image_48 : decode cX6_image 48 = .ok (.iastore, 1) := by decide +kernel
theorem dX6_image_49 : decode cX6_image 49 = .ok (.iinc 1 1, 3) := by decide +kernel
theorem dX6_image_52 : decode cX6_image 52 = .ok (.goto (-24), 3) := by decide +kernel
theorem dX6_image_55 : decode cX6_image 55 = .ok (.aload_n 0, 1) := by decide +kernel
theorem dX6_image_56 : decode cX6_image 56 = .ok (.aload_n 0, 1) := by decide +kernel
theorem dX6_image_57 : decode cX6_image 57 = .ok (.getfield 81, 3) := by decide +kernel
theorem dX6_image_60 : decode cX6_image 60 = .ok (.putfield 195, 3) := by decide +kernel
theorem dX6_image_63 : decode cX6_image 63 = .ok (.aload_n 0, 1) := by decide +kernel
theorem dX6_image_64 : decode cX6_image 64 = .ok (.iconst 1, 1) := by decide +kernel
theorem dX6_image_65 : decode cX6_image 65 = .ok (.putfield 198, 3) := by decide +kernel
theorem dX6_image_68 : decode cX6_image 68 = .ok (.iconst 1, 1) := by decide +kernel
theorem dX6_image_69 : decode cX6_image 69 = .ok (.ireturn, 1) := by decide +kernel
theorem dX6_restore_0 : decode cX6_restore 0 = .ok (.aload_n 0, 1) := by decide +kernel
theorem dX6_restore_1 : decode cX6_restore 1 = .ok (.getfield 198, 3) := by decide +kernel
theorem dX6_restore_4 : decode cX6_restore 4 = .ok (.ifCond .ne 6, 3) := by decide +kernel
theorem dX6_restore_7 : decode cX6_restore 7 = .ok (.bipush (-4), 2) := by decide +kernel
theorem dX6_restore_9 : decode cX6_restore 9 = .ok (.ireturn, 1) := by decide +kernel
theorem dX6_restore_10 : decode cX6_restore 10 = .ok (.iconst 0, 1) := by decide +kernel
theorem dX6_restore_11 : decode cX6_restore 11 = .ok (.istore_n 1, 1) := by decide +kernel
theorem dX6_restore_12 : decode cX6_restore 12 = .ok (.iload_n 1, 1) := by decide +kernel
theorem dX6_restore_13 : decode cX6_restore 13 = .ok (.bipush 35, 2) := by decide +kernel
theorem dX6_restore_15 : decode cX6_restore 15 = .ok (.if_icmp .ge 21, 3) := by decide +kernel
theorem dX6_restore_18 : decode cX6_restore 18 = .ok (.aload_n 0, 1) := by decide +kernel
theorem dX6_restore_19 : decode cX6_restore 19 = .ok (.getfield 7, 3) := by decide +kernel
theorem dX6_restore_22 : decode cX6_restore 22 = .ok (.iload_n 1, 1) := by decide +kernel
theorem dX6_restore_23 : decode cX6_restore 23 = .ok (.aload_n 0, 1) := by decide +kernel
theorem dX6_restore_24 : decode cX6_restore 24 = .ok (.getfield 31, 3) := by decide +kernel
theorem dX6_restore_27 : decode cX6_restore 27 = .ok (.iload_n 1, 1) := by decide +kernel
theorem dX6_restore_28 : decode cX6_restore 28 = .ok (.iaload, 1) := by decide +kernel
theorem dX6_restore_29 : decode cX6_restore 29 = .ok (.iastore, 1) := by decide +kernel
theorem dX6_restore_30 : decode cX6_restore 30 = .ok (.iinc 1 1, 3) := by decide +kernel
theorem dX6_restore_33 : decode cX6_restore 33 = .ok (.goto (-21), 3) := by decide +kernel
theorem dX6_restore_36 : decode cX6_restore 36 = .ok (.iconst 0, 1) := by decide +kernel
theorem dX6_restore_37 : decode cX6_restore 37 = .ok (.istore_n 1, 1) := by decide +kernel
theorem dX6_restore_38 : decode cX6_restore 38 = .ok (.iload_n 1, 1) := by decide +kernel
theorem dX6_restore_39 : decode cX6_restore 39 = .ok (.bipush 112, 2) := by decide +kernel
theorem dX6_restore_41 : decode cX6_restore 41 = .ok (.if_icmp .ge 24, 3) := by decide +kernel
theorem dX6_restore_44 : decode cX6_restore 44 = .ok (.aload_n 0, 1) := by decide +kernel
theorem dX6_restore_45 : decode cX6_restore 45 = .ok (.getfield 22, 3) := by decide +kernel
theorem dX6_restore_48 : decode cX6_restore 48 = .ok (.iload_n 1, 1) := by decide +kernel
theorem dX6_restore_49 : decode cX6_restore 49 = .ok (.aload_n 0, 1) := by decide +kernel
theorem dX6_restore_50 : decode cX6_restore 50 = .ok (.getfield 31, 3) := by decide +kernel
theorem dX6_restore_53 : decode cX6_restore 53 = .ok (.bipush 35, 2) := by decide +kernel
theorem dX6_restore_55 : decode cX6_restore 55 = .ok (.iload_n 1, 1) := by decide +kernel
theorem dX6_restore_56 : decode cX6_restore 56 = .ok (.iadd, 1) := by decide +kernel
theorem dX6_restore_57 : decode cX6_restore 57 = .ok (.iaload, 1) := by decide +kernel
theorem dX6_restore_58 : decode cX6_restore 58 = .ok (.iastore, 1) := by decide +kernel
theorem dX6_restore_59 : decode cX6_restore 59 = .ok (.iinc 1 1, 3) := by decide +kernel
theorem dX6_restore_62 : decode cX6_restore 62 = .ok (.goto (-24), 3) := by decide +kernel
theorem dX6_restore_65 : decode cX6_restore 65 = .ok (.aload_n 0, 1) := by decide +kernel
theorem dX6_restore_66 : decode cX6_restore 66 = .ok (.aload_n 0, 1) := by decide +kernel
theorem dX6_restore_67 : decode cX6_restore 67 = .ok (.getfield 195, 3) := by decide +kernel
theorem dX6_restore_70 : decode cX6_restore 70 = .ok (.putfield 81, 3) := by decide +kernel
theorem dX6_restore_73 : decode cX6_restore 73 = .ok (.iconst 1, 1) := by decide +kernel
theorem dX6_restore_74 : decode cX6_restore 74 = .ok (.ireturn, 1) := by decide +kernel
set_option maxRecDepth 20000 in
theorem ggX6_isSheet_X6_in : GoodIn wsX6_isSheet wsX6_in := goodIn_r _ [5] (by decide +kernel) (by decide +kernel)
set_option maxRecDepth 20000 in
theorem gX6_isSheet_X6_in : GoodIn wsX6_isSheet (va_wsS RX6 47 yX6_in wsX6_in) := goodIn_app (goodIn_of _ (by decide +kernel)) ggX6_isSheet_X6_in
theorem dX6_isSheet_0 : decode cX6_isSheet 0 = .ok (.iload_n 0, 1) := by decide +kernel
theorem dX6_isSheet_1 : decode cX6_isSheet 1 = .ok (.i2l, 1) := by decide +kernel
theorem dX6_isSheet_2 : decode cX6_isSheet 2 = .ok (.lconst 0, 1) := by decide +kernel
theorem dX6_isSheet_3 : decode cX6_isSheet 3 = .ok (.ldc2_w 201, 3) := by decide +kernel
theorem dX6_isSheet_6 : decode cX6_isSheet 6 = .ok (.invokestatic 47, 3) := by decide +kernel
theorem dX6_isSheet_9 : decode cX6_isSheet 9 = .ok (.ireturn, 1) := by decide +kernel
set_option maxRecDepth 20000 in
theorem ggX6_isLane_X6_in : GoodIn wsX6_isLane wsX6_in := goodIn_r _ [5] (by decide +kernel) (by decide +kernel)
set_option maxRecDepth 20000 in
theorem gX6_isLane_X6_in : GoodIn wsX6_isLane (va_wsS RX6 47 yX6_in wsX6_in) := goodIn_app (goodIn_of _ (by decide +kernel)) ggX6_isLane_X6_in
theorem dX6_isLane_0 : decode cX6_isLane 0 = .ok (.iload_n 0, 1) := by decide +kernel
theorem dX6_isLane_1 : decode cX6_isLane 1 = .ok (.i2l, 1) := by decide +kernel
theorem dX6_isLane_2 : decode cX6_isLane 2 = .ok (.lconst 0, 1) := by decide +kernel
theorem dX6_isLane_3 : decode cX6_isLane 3 = .ok (.ldc2_w 201, 3) := by decide +kernel
theorem dX6_isLane_6 : decode cX6_isLane 6 = .ok (.invokestatic 47, 3) := by decide +kernel
theorem dX6_isLane_9 : decode cX6_isLane 9 = .ok (.ireturn, 1) := by decide +kernel
theorem dX6_why_0 : decode cX6_why 0 = .ok (.aload_n 0, 1) := by decide +kernel
theorem dX6_why_1 : decode cX6_why 1 = .ok (.getfield 34, 3) := by decide +kernel
theorem dX6_why_4 : decode cX6_why 4 = .ok (.iload_n 1, 1) := by decide +kernel
theorem dX6_why_5 : decode cX6_why 5 = .ok (.iaload, 1) := by decide +kernel
theorem dX6_why_6 : decode cX6_why 6 = .ok (.ifCond .ge 6, 3) := by decide +kernel
theorem dX6_why_9 : decode cX6_why 9 = .ok (.bipush (-11), 2) := by decide +kernel
theorem dX6_why_11 : decode cX6_why 11 = .ok (.ireturn, 1) := by decide +kernel
theorem dX6_why_12 : decode cX6_why 12 = .ok (.aload_n 0, 1) := by decide +kernel
theorem dX6_why_13 : decode cX6_why 13 = .ok (.getfield 34, 3) := by decide +kernel
theorem dX6_why_16 : decode cX6_why 16 = .ok (.iload_n 1, 1) := by decide +kernel
theorem dX6_why_17 : decode cX6_why 17 = .ok (.iaload, 1) := by decide +kernel
theorem dX6_why_18 : decode cX6_why 18 = .ok (.iload_n 2, 1) := by decide +kernel
theorem dX6_why_19 : decode cX6_why 19 = .ok (.if_icmp .eq 6, 3) := by decide +kernel
theorem dX6_why_22 : decode cX6_why 22 = .ok (.bipush (-12), 2) := by decide +kernel
theorem dX6_why_24 : decode cX6_why 24 = .ok (.ireturn, 1) := by decide +kernel
theorem dX6_why_25 : decode cX6_why 25 = .ok (.iload_n 3, 1) := by decide +kernel
theorem dX6_why_26 : decode cX6_why 26 = .ok (.ifCond .lt 25, 3) := by decide +kernel
theorem dX6_why_29 : decode cX6_why 29 = .ok (.iload 4, 2) := by decide +kernel
theorem dX6_why_31 : decode cX6_why 31 = .ok (.ifCond .lt 20, 3) := by decide +kernel
theorem dX6_why_34 : decode cX6_why 34 = .ok (.iload_n 3, 1) := by decide +kernel
theorem dX6_why_35 : decode cX6_why 35 = .ok (.i2l, 1) := by decide +kernel
theorem dX6_why_36 : decode cX6_why 36 = .ok (.iload 4, 2) := by decide +kernel
theorem dX6_why_38 : decode cX6_why 38 = .ok (.i2l, 1) := by decide +kernel
theorem dX6_why_39 : decode cX6_why 39 = .ok (.ladd, 1) := by decide +kernel
theorem dX6_why_40 : decode cX6_why 40 = .ok (.aload_n 0, 1) := by decide +kernel
theorem dX6_why_41 : decode cX6_why 41 = .ok (.getfield 37, 3) := by decide +kernel
theorem dX6_why_44 : decode cX6_why 44 = .ok (.iload_n 1, 1) := by decide +kernel
theorem dX6_why_45 : decode cX6_why 45 = .ok (.iaload, 1) := by decide +kernel
theorem dX6_why_46 : decode cX6_why 46 = .ok (.i2l, 1) := by decide +kernel
theorem dX6_why_47 : decode cX6_why 47 = .ok (.lcmp, 1) := by decide +kernel
theorem dX6_why_48 : decode cX6_why 48 = .ok (.ifCond .le 8, 3) := by decide +kernel
theorem dX6_why_51 : decode cX6_why 51 = .ok (.bipush (-13), 2) := by decide +kernel
theorem dX6_why_53 : decode cX6_why 53 = .ok (.goto 4, 3) := by decide +kernel
theorem dX6_why_56 : decode cX6_why 56 = .ok (.iconst 0, 1) := by decide +kernel
theorem dX6_why_57 : decode cX6_why 57 = .ok (.ireturn, 1) := by decide +kernel
set_option maxRecDepth 20000 in
theorem ggX6_whence_X6_isSheet : GoodIn wsX6_whence wsX6_isSheet := goodIn_r _ [8, 9, 10, 11, 7, 12] (by decide +kernel) (by decide +kernel)
set_option maxRecDepth 20000 in
theorem gX6_whence_X6_isSheet : GoodIn wsX6_whence (va_wsS RX6 203 yX6_isSheet wsX6_isSheet) := goodIn_app (goodIn_of _ (by decide +kernel)) ggX6_whence_X6_isSheet
set_option maxRecDepth 20000 in
theorem ggX6_whence_X6_isLane : GoodIn wsX6_whence wsX6_isLane := goodIn_r _ [15, 9, 10, 11, 7, 12] (by decide +kernel) (by decide +kernel)
set_option maxRecDepth 20000 in
theorem gX6_whence_X6_isLane : GoodIn wsX6_whence (va_wsS RX6 206 yX6_isLane wsX6_isLane) := goodIn_app (goodIn_of _ (by decide +kernel)) ggX6_whence_X6_isLane
set_option maxRecDepth 20000 in
theorem ggX6_whence_X6_in : GoodIn wsX6_whence wsX6_in := goodIn_r _ [12] (by decide +kernel) (by decide +kernel)
set_option maxRecDepth 20000 in
theorem gX6_whence_X6_in : GoodIn wsX6_whence (va_wsS RX6 47 yX6_in wsX6_in) := goodIn_app (goodIn_of _ (by decide +kernel)) ggX6_whence_X6_in
set_option maxRecDepth 20000 in
theorem ggX6_whence_X6_why : GoodIn wsX6_whence wsX6_why := goodIn_r _ [19, 20, 21, 69, 70, 71, 72, 73, 74, 75, 76, 77, 78, 79, 80, 81, 82, 83, 84, 85, 86, 87, 88] (by decide +kernel) (by decide +kernel)
set_option maxRecDepth 20000 in
theorem gX6_whence_X6_why : GoodIn wsX6_whence (wsV RX6 209 RX6 yX6_why wsX6_why) := goodIn_app (goodIn_of _ (by decide +kernel)) ggX6_whence_X6_why
set_option maxRecDepth 20000 in
theorem ggX6_whence_X6_asides : GoodIn wsX6_whence wsX6_asides := goodIn_r _ [25, 26, 3, 69, 70, 71, 72, 73, 74, 75, 76, 77, 78, 79, 80, 81, 82, 83, 84, 85, 86, 87, 88] (by decide +kernel) (by decide +kernel)
set_option maxRecDepth 20000 in
theorem gX6_whence_X6_asides : GoodIn wsX6_whence (wsV RX6 165 RX6 yX6_asides wsX6_asides) := goodIn_app (goodIn_of _ (by decide +kernel)) ggX6_whence_X6_asides
set_option maxRecDepth 20000 in
theorem ggX6_whence_X6_costs : GoodIn wsX6_whence wsX6_costs := goodIn_r _ [30, 4, 31, 32, 33, 7, 34, 3, 35, 36, 37, 38, 39, 40, 41, 42, 43, 44, 45, 46, 47, 48, 49, 50, 51, 52, 53, 54, 55, 56, 57, 58, 59, 60, 61, 62, 63, 64, 65, 66, 67, 68, 26, 69, 70, 71, 72, 73, 74, 75, 76, 77, 78, 79, 80, 81, 82, 83, 84, 85, 86, 87, 88] (by decide +kernel) (by decide +kernel)
set_option maxRecDepth 20000 in
theorem gX6_whence_X6_costs : GoodIn wsX6_whence (wsV RX6 178 RX6 yX6_costs wsX6_costs) := goodIn_app (goodIn_of _ (by decide +kernel)) ggX6_whence_X6_costs
theorem dX6_whence_0 : decode cX6_whence 0 = .ok (.iload_n 1, 1) := by decide +kernel
theorem dX6_whence_1 : decode cX6_whence 1 = .ok (.invokestatic 203, 3) := by decide +kernel
theorem dX6_whence_4 : decode cX6_whence 4 = .ok (.ifCond .eq 34, 3) := by decide +kernel
theorem dX6_whence_7 : decode cX6_whence 7 = .ok (.iload_n 2, 1) := by decide +kernel
theorem dX6_whence_8 : decode cX6_whence 8 = .ok (.invokestatic 206, 3) := by decide +kernel
theorem dX6_whence_11 : decode cX6_whence 11 = .ok (.ifCond .eq 27, 3) := by decide +kernel
theorem dX6_whence_14 : decode cX6_whence 14 = .ok (.iload 4, 2) := by decide +kernel
theorem dX6_whence_16 : decode cX6_whence 16 = .ok (.i2l, 1) := by decide +kernel
theorem dX6_whence_17 : decode cX6_whence 17 = .ok (.lconst 0, 1) := by decide +kernel
theorem dX6_whence_18 : decode cX6_whence 18 = .ok (.ldc2_w 181, 3) := by decide +kernel
theorem dX6_whence_21 : decode cX6_whence 21 = .ok (.invokestatic 47, 3) := by decide +kernel
theorem dX6_whence_24 : decode cX6_whence 24 = .ok (.ifCond .eq 14, 3) := by decide +kernel
theorem dX6_whence_27 : decode cX6_whence 27 = .ok (.iload 5, 2) := by decide +kernel
theorem dX6_whence_29 : decode cX6_whence 29 = .ok (.i2l, 1) := by decide +kernel
theorem dX6_whence_30 : decode cX6_whence 30 = .ok (.lconst 0, 1) := by decide +kernel
theorem dX6_whence_31 : decode cX6_whence 31 = .ok (.lconst 1, 1) := by decide +kernel
theorem dX6_whence_32 : decode cX6_whence 32 = .ok (.invokestatic 47, 3) := by decide +kernel
theorem dX6_whence_35 : decode cX6_whence 35 = .ok (.ifCond .ne 5, 3) := by decide +kernel
theorem dX6_whence_38 : decode cX6_whence 38 = .ok (.iconst (-1), 1) := by decide +kernel
theorem dX6_whence_39 : decode cX6_whence 39 = .ok (.ireturn, 1) := by decide +kernel
theorem dX6_whence_40 : decode cX6_whence 40 = .ok (.aload_n 0, 1) := by decide +kernel
theorem dX6_whence_41 : decode cX6_whence 41 = .ok (.iload_n 1, 1) := by decide +kernel
theorem dX6_whence_42 : decode cX6_whence 42 = .ok (.iload_n 2, 1) := by decide +kernel
theorem dX6_whence_43 : decode cX6_whence 43 = .ok (.iload_n 3, 1) := by decide +kernel
theorem dX6_whence_44 : decode cX6_whence 44 = .ok (.iload 4, 2) := by decide +kernel
theorem dX6_whence_46 : decode cX6_whence 46 = .ok (.invokevirtual 209, 3) := by decide +kernel
theorem dX6_whence_49 : decode cX6_whence 49 = .ok (.istore 6, 2) := by decide +kernel
theorem dX6_whence_51 : decode cX6_whence 51 = .ok (.iload 6, 2) := by decide +kernel
theorem dX6_whence_53 : decode cX6_whence 53 = .ok (.ifCond .ge 6, 3) := by decide +kernel
theorem dX6_whence_56 : decode cX6_whence 56 = .ok (.iload 6, 2) := by decide +kernel
theorem dX6_whence_58 : decode cX6_whence 58 = .ok (.ireturn, 1) := by decide +kernel
theorem dX6_whence_59 : decode cX6_whence 59 = .ok (.iconst 0, 1) := by decide +kernel
theorem dX6_whence_60 : decode cX6_whence 60 = .ok (.istore 7, 2) := by decide +kernel
theorem dX6_whence_62 : decode cX6_whence 62 = .ok (.iconst 0, 1) := by decide +kernel
theorem dX6_whence_63 : decode cX6_whence 63 = .ok (.istore 8, 2) := by decide +kernel
theorem dX6_whence_65 : decode cX6_whence 65 = .ok (.iload 8, 2) := by decide +kernel
theorem dX6_whence_67 : decode cX6_whence 67 = .ok (.iload 4, 2) := by decide +kernel
theorem dX6_whence_69 : decode cX6_whence 69 = .ok (.if_icmp .ge 68, 3) := by decide +kernel
theorem dX6_whence_72 : decode cX6_whence 72 = .ok (.aload_n 0, 1) := by decide +kernel
theorem dX6_whence_73 : decode cX6_whence 73 = .ok (.getfield 40, 3) := by decide +kernel
theorem dX6_whence_76 : decode cX6_whence 76 = .ok (.bipush 24, 2) := by decide +kernel
theorem dX6_whence_78 : decode cX6_whence 78 = .ok (.iload_n 1, 1) := by decide +kernel
theorem dX6_whence_79 : decode cX6_whence 79 = .ok (.imul, 1) := by decide +kernel
theorem dX6_whence_80 : decode cX6_whence 80 = .ok (.iload_n 3, 1) := by decide +kernel
theorem dX6_whence_81 : decode cX6_whence 81 = .ok (.iadd, 1) := by decide +kernel
theorem dX6_whence_82 : decode cX6_whence 82 = .ok (.iload 8, 2) := by decide +kernel
theorem dX6_whence_84 : decode cX6_whence 84 = .ok (.iadd, 1) := by decide +kernel
theorem dX6_whence_85 : decode cX6_whence 85 = .ok (.laload, 1) := by decide +kernel
theorem dX6_whence_86 : decode cX6_whence 86 = .ok (.lstore 9, 2) := by decide +kernel
theorem dX6_whence_88 : decode cX6_whence 88 = .ok (.lload 9, 2) := by decide +kernel
theorem dX6_whence_90 : decode cX6_whence 90 = .ok (.lconst 0, 1) := by decide +kernel
theorem dX6_whence_91 : decode cX6_whence 91 = .ok (.aload_n 0, 1) := by decide +kernel
theorem dX6_whence_92 : decode cX6_whence 92 = .ok (.getfield 7, 3) := by decide +kernel
theorem dX6_whence_95 : decode cX6_whence 95 = .ok (.iconst 0, 1) := by decide +kernel
theorem dX6_whence_96 : decode cX6_whence 96 = .ok (.iaload, 1) := by decide +kernel
theorem dX6_whence_97 : decode cX6_whence 97 = .ok (.iconst 1, 1) := by decide +kernel
theorem dX6_whence_98 : decode cX6_whence 98 = .ok (.isub, 1) := by decide +kernel
theorem dX6_whence_99 : decode cX6_whence 99 = .ok (.i2l, 1) := by decide +kernel
theorem dX6_whence_100 : decode cX6_whence 100 = .ok (.invokestatic 47, 3) := by decide +kernel
theorem dX6_whence_103 : decode cX6_whence 103 = .ok (.ifCond .eq 15, 3) := by decide +kernel
theorem dX6_whence_106 : decode cX6_whence 106 = .ok (.iload 7, 2) := by decide +kernel
theorem dX6_whence_108 : decode cX6_whence 108 = .ok (.lload 9, 2) := by decide +kernel
theorem dX6_whence_110 : decode cX6_whence 110 = .ok (.l2i, 1) := by decide +kernel
theorem dX6_whence_111 : decode cX6_whence 111 = .ok (.ishr, 1) := by decide +kernel
theorem dX6_whence_112 : decode cX6_whence 112 = .ok (.iconst 1, 1) := by decide +kernel
theorem dX6_whence_113 : decode cX6_whence 113 = .ok (.iand, 1) := by decide +kernel
theorem dX6_whence_114 : decode cX6_whence 114 = .ok (.iconst 1, 1) := by decide +kernel
theorem dX6_whence_115 : decode cX6_whence 115 = .ok (.if_icmp .ne 6, 3) := by decide +kernel
theorem dX6_whence_118 : decode cX6_whence 118 = .ok (.bipush (-2), 2) := by decide +kernel
theorem dX6_whence_120 : decode cX6_whence 120 = .ok (.ireturn, 1) := by decide +kernel
theorem dX6_whence_121 : decode cX6_whence 121 = .ok (.iload 7, 2) := by decide +kernel
theorem dX6_whence_123 : decode cX6_whence 123 = .ok (.iconst 1, 1) := by decide +kernel
theorem dX6_whence_124 : decode cX6_whence 124 = .ok (.lload 9, 2) := by decide +kernel
theorem dX6_whence_126 : decode cX6_whence 126 = .ok (.l2i, 1) := by decide +kernel
theorem dX6_whence_127 : decode cX6_whence 127 = .ok (.ishl, 1) := by decide +kernel
theorem dX6_whence_128 : decode cX6_whence 128 = .ok (.ior, 1) := by decide +kernel
theorem dX6_whence_129 : decode cX6_whence 129 = .ok (.istore 7, 2) := by decide +kernel
theorem dX6_whence_131 : decode cX6_whence 131 = .ok (.iinc 8 1, 3) := by decide +kernel
theorem dX6_whence_134 : decode cX6_whence 134 = .ok (.goto (-69), 3) := by decide +kernel
theorem dX6_whence_137 : decode cX6_whence 137 = .ok (.iconst 0, 1) := by decide +kernel
theorem dX6_whence_138 : decode cX6_whence 138 = .ok (.istore 8, 2) := by decide +kernel
theorem dX6_whence_140 : decode cX6_whence 140 = .ok (.bipush (-4), 2) := by decide +kernel
theorem dX6_whence_142 : decode cX6_whence 142 = .ok (.istore 9, 2) := by decide +kernel
theorem dX6_whence_144 : decode cX6_whence 144 = .ok (.aload_n 0, 1) := by decide +kernel
theorem dX6_whence_145 : decode cX6_whence 145 = .ok (.invokevirtual 165, 3) := by decide +kernel
theorem dX6_whence_148 : decode cX6_whence 148 = .ok (.iconst 0, 1) := by decide +kernel
theorem dX6_whence_149 : decode cX6_whence 149 = .ok (.istore 10, 2) := by decide +kernel
theorem dX6_whence_151 : decode cX6_whence 151 = .ok (.iload 10, 2) := by decide +kernel
theorem dX6_whence_153 : decode cX6_whence 153 = .ok (.bipush 10, 2) := by decide +kernel
theorem dX6_whence_155 : decode cX6_whence 155 = .ok (.if_icmp .ge 82, 3) := by decide +kernel
theorem dX6_whence_158 : decode cX6_whence 158 = .ok (.iconst 1, 1) := by decide +kernel
theorem dX6_whence_159 : decode cX6_whence 159 = .ok (.istore 11, 2) := by decide +kernel
theorem dX6_whence_161 : decode cX6_whence 161 = .ok (.iload 11, 2) := by decide +kernel
theorem dX6_whence_163 : decode cX6_whence 163 = .ok (.bipush 41, 2) := by decide +kernel
theorem dX6_whence_165 : decode cX6_whence 165 = .ok (.if_icmp .ge 66, 3) := by decide +kernel
theorem dX6_whence_168 : decode cX6_whence 168 = .ok (.aload_n 0, 1) := by decide +kernel
theorem dX6_whence_169 : decode cX6_whence 169 = .ok (.iload 10, 2) := by decide +kernel
theorem dX6_whence_171 : decode cX6_whence 171 = .ok (.iload 11, 2) := by decide +kernel
theorem dX6_whence_173 : decode cX6_whence 173 = .ok (.invokevirtual 178, 3) := by decide +kernel
theorem dX6_whence_176 : decode cX6_whence 176 = .ok (.pop, 1) := by decide +kernel
theorem dX6_whence_177 : decode cX6_whence 177 = .ok (.aload_n 0, 1) := by decide +kernel
theorem dX6_whence_178 : decode cX6_whence 178 = .ok (.getfield 175, 3) := by decide +kernel
theorem dX6_whence_181 : decode cX6_whence 181 = .ok (.iload 7, 2) := by decide +kernel
theorem dX6_whence_183 : decode cX6_whence 183 = .ok (.if_icmp .ne 19, 3) := by decide +kernel
theorem dX6_whence_186 : decode cX6_whence 186 = .ok (.iload 8, 2) := by decide +kernel
theorem dX6_whence_188 : decode cX6_whence 188 = .ok (.ifCond .ne 14, 3) := by decide +kernel
theorem dX6_whence_191 : decode cX6_whence 191 = .ok (.bipush 100, 2) := by decide +kernel
theorem dX6_whence_193 : decode cX6_whence 193 = .ok (.iload 10, 2) := by decide +kernel
theorem dX6_whence_195 : decode cX6_whence 195 = .ok (.imul, 1) := by decide +kernel
theorem dX6_whence_196 : decode cX6_whence 196 = .ok (.iload 11, 2) := by decide +kernel
theorem dX6_whence_198 : decode cX6_whence 198 = .ok (.iadd, 1) := by decide +kernel
theorem dX6_whence_199 : decode cX6_whence 199 = .ok (.goto 5, 3) := by decide +kernel
theorem dX6_whence_202 : decode cX6_whence 202 = .ok (.iload 9, 2) := by decide +kernel
theorem dX6_whence_204 : decode cX6_whence 204 = .ok (.istore 9, 2) := by decide +kernel
theorem dX6_whence_206 : decode cX6_whence 206 = .ok (.iload 8, 2) := by decide +kernel
theorem dX6_whence_208 : decode cX6_whence 208 = .ok (.aload_n 0, 1) := by decide +kernel
theorem dX6_whence_209 : decode cX6_whence 209 = .ok (.getfield 175, 3) := by decide +kernel
theorem dX6_whence_212 : decode cX6_whence 212 = .ok (.iload 7, 2) := by decide +kernel
theorem dX6_whence_214 : decode cX6_whence 214 = .ok (.if_icmp .ne 7, 3) := by decide +kernel
theorem dX6_whence_217 : decode cX6_whence 217 = .ok (.iconst 1, 1) := by decide +kernel
theorem dX6_whence_218 : decode cX6_whence 218 = .ok (.goto 4, 3) := by decide +kernel
theorem dX6_whence_221 : decode cX6_whence 221 = .ok (.iconst 0, 1) := by decide +kernel
theorem dX6_whence_222 : decode cX6_whence 222 = .ok (.iadd, 1) := by decide +kernel
theorem dX6_whence_223 : decode cX6_whence 223 = .ok (.istore 8, 2) := by decide +kernel
theorem dX6_whence_225 : decode cX6_whence 225 = .ok (.iinc 11 1, 3) := by decide +kernel
theorem dX6_whence_228 : decode cX6_whence 228 = .ok (.goto (-67), 3) := by decide +kernel
theorem dX6_whence_231 : decode cX6_whence 231 = .ok (.iinc 10 1, 3) := by decide +kernel
theorem dX6_whence_234 : decode cX6_whence 234 = .ok (.goto (-83), 3) := by decide +kernel
theorem dX6_whence_237 : decode cX6_whence 237 = .ok (.iload 5, 2) := by decide +kernel
theorem dX6_whence_239 : decode cX6_whence 239 = .ok (.ifCond .ne 8, 3) := by decide +kernel
theorem dX6_whence_242 : decode cX6_whence 242 = .ok (.iload 8, 2) := by decide +kernel
theorem dX6_whence_244 : decode cX6_whence 244 = .ok (.goto 5, 3) := by decide +kernel
theorem dX6_whence_247 : decode cX6_whence 247 = .ok (.iload 9, 2) := by decide +kernel
theorem dX6_whence_249 : decode cX6_whence 249 = .ok (.ireturn, 1) := by decide +kernel
set_option maxRecDepth 20000 in
theorem ggX6_film_X6_in : GoodIn wsX6_film wsX6_in := goodIn_r _ [6] (by decide +kernel) (by decide +kernel)
set_option maxRecDepth 20000 in
theorem gX6_film_X6_in : GoodIn wsX6_film (va_wsS RX6 47 yX6_in wsX6_in) := goodIn_app (goodIn_of _ (by decide +kernel)) ggX6_film_X6_in
set_option maxRecDepth 20000 in
theorem ggX6_film_X6_isSheet : GoodIn wsX6_film wsX6_isSheet := goodIn_r _ [9, 10, 3, 4, 5, 6] (by decide +kernel) (by decide +kernel)
set_option maxRecDepth 20000 in
theorem gX6_film_X6_isSheet : GoodIn wsX6_film (va_wsS RX6 203 yX6_isSheet wsX6_isSheet) := goodIn_app (goodIn_of _ (by decide +kernel)) ggX6_film_X6_isSheet
set_option maxRecDepth 20000 in
theorem ggX6_film_X6_isLane : GoodIn wsX6_film wsX6_isLane := goodIn_r _ [13, 10, 3, 4, 5, 6] (by decide +kernel) (by decide +kernel)
set_option maxRecDepth 20000 in
theorem gX6_film_X6_isLane : GoodIn wsX6_film (va_wsS RX6 206 yX6_isLane wsX6_isLane) := goodIn_app (goodIn_of _ (by decide +kernel)) ggX6_film_X6_isLane
set_option maxRecDepth 20000 in
theorem ggX6_film_X6_why : GoodIn wsX6_film wsX6_why := goodIn_r _ [17, 18, 19, 28, 29, 30, 31, 32, 33, 34, 35, 36, 37, 38, 39, 40, 41, 42, 43, 44, 45, 46, 47] (by decide +kernel) (by decide +kernel)
set_option maxRecDepth 20000 in
theorem gX6_film_X6_why : GoodIn wsX6_film (wsV RX6 209 RX6 yX6_why wsX6_why) := goodIn_app (goodIn_of _ (by decide +kernel)) ggX6_film_X6_why
set_option maxRecDepth 20000 in
theorem ggX6_film_X6_ash : GoodIn wsX6_film wsX6_ash := goodIn_r _ [23, 24, 25, 26, 5, 27, 1, 28, 29, 30, 31, 32, 33, 34, 35, 36, 37, 38, 39, 40, 41, 42, 43, 44, 45, 46, 47] (by decide +kernel) (by decide +kernel)
set_option maxRecDepth 20000 in
theorem gX6_film_X6_ash : GoodIn wsX6_film (wsV RX6 63 RX6 yX6_ash wsX6_ash) := goodIn_app (goodIn_of _ (by decide +kernel)) ggX6_film_X6_ash
theorem dX6_film_0 : decode cX6_film 0 = .ok (.iload_n 1, 1) := by decide +kernel
theorem dX6_film_1 : decode cX6_film 1 = .ok (.i2l, 1) := by decide +kernel
theorem dX6_film_2 : decode cX6_film 2 = .ok (.lconst 1, 1) := by decide +kernel
theorem dX6_film_3 : decode cX6_film 3 = .ok (.aload_n 0, 1) := by decide +kernel
theorem dX6_film_4 : decode cX6_film 4 = .ok (.getfield 7, 3) := by decide +kernel
theorem dX6_film_7 : decode cX6_film 7 = .ok (.iconst 0, 1) := by decide +kernel
theorem dX6_film_8 : decode cX6_film 8 = .ok (.iaload, 1) := by decide +kernel
theorem dX6_film_9 : decode cX6_film 9 = .ok (.i2l, 1) := by decide +kernel
theorem dX6_film_10 : decode cX6_film 10 = .ok (.invokestatic 47, 3) := by decide +kernel
theorem dX6_film_13 : decode cX6_film 13 = .ok (.ifCond .eq 17, 3) := by decide +kernel
theorem dX6_film_16 : decode cX6_film 16 = .ok (.iload_n 2, 1) := by decide +kernel
theorem dX6_film_17 : decode cX6_film 17 = .ok (.invokestatic 203, 3) := by decide +kernel
theorem dX6_film_20 : decode cX6_film 20 = .ok (.ifCond .eq 10, 3) := by decide +kernel
theorem dX6_film_23 : decode cX6_film 23 = .ok (.iload_n 3, 1) := by decide +kernel
theorem dX6_film_24 : decode cX6_film 24 = .ok (.invokestatic 206, 3) := by decide +kernel
theorem dX6_film_27 : decode cX6_film 27 = .ok (.ifCond .ne 5, 3) := by decide +kernel
theorem dX6_film_30 : decode cX6_film 30 = .ok (.iconst (-1), 1) := by decide +kernel
theorem dX6_film_31 : decode cX6_film 31 = .ok (.ireturn, 1) := by decide +kernel
theorem dX6_film_32 : decode cX6_film 32 = .ok (.aload_n 0, 1) := by decide +kernel
theorem dX6_film_33 : decode cX6_film 33 = .ok (.iload_n 2, 1) := by decide +kernel
theorem dX6_film_34 : decode cX6_film 34 = .ok (.iload_n 3, 1) := by decide +kernel
theorem dX6_film_35 : decode cX6_film 35 = .ok (.iload 4, 2) := by decide +kernel
theorem dX6_film_37 : decode cX6_film 37 = .ok (.iload_n 1, 1) := by decide +kernel
theorem dX6_film_38 : decode cX6_film 38 = .ok (.invokevirtual 209, 3) := by decide +kernel
theorem dX6_film_41 : decode cX6_film 41 = .ok (.istore 5, 2) := by decide +kernel
theorem dX6_film_43 : decode cX6_film 43 = .ok (.iload 5, 2) := by decide +kernel
theorem dX6_film_45 : decode cX6_film 45 = .ok (.ifCond .ge 6, 3) := by decide +kernel
theorem dX6_film_48 : decode cX6_film 48 = .ok (.iload 5, 2) := by decide +kernel
theorem dX6_film_50 : decode cX6_film 50 = .ok (.ireturn, 1) := by decide +kernel
theorem dX6_film_51 : decode cX6_film 51 = .ok (.iconst 0, 1) := by decide +kernel
theorem dX6_film_52 : decode cX6_film 52 = .ok (.istore 6, 2) := by decide +kernel
theorem dX6_film_54 : decode cX6_film 54 = .ok (.iload 6, 2) := by decide +kernel
theorem dX6_film_56 : decode cX6_film 56 = .ok (.iload_n 1, 1) := by decide +kernel
theorem dX6_film_57 : decode cX6_film 57 = .ok (.if_icmp .ge 31, 3) := by decide +kernel
theorem dX6_film_60 : decode cX6_film 60 = .ok (.aload_n 0, 1) := by decide +kernel
theorem dX6_film_61 : decode cX6_film 61 = .ok (.getfield 40, 3) := by decide +kernel
theorem dX6_film_64 : decode cX6_film 64 = .ok (.bipush 24, 2) := by decide +kernel
theorem dX6_film_66 : decode cX6_film 66 = .ok (.iload_n 2, 1) := by decide +kernel
theorem dX6_film_67 : decode cX6_film 67 = .ok (.imul, 1) := by decide +kernel
theorem dX6_film_68 : decode cX6_film 68 = .ok (.iload 4, 2) := by decide +kernel
theorem dX6_film_70 : decode cX6_film 70 = .ok (.iadd, 1) := by decide +kernel
theorem dX6_film_71 : decode cX6_film 71 = .ok (.iload 6, 2) := by decide +kernel
theorem dX6_film_73 : decode cX6_film 73 = .ok (.iadd, 1) := by decide +kernel
theorem dX6_film_74 : decode cX6_film 74 = .ok (.aload_n 0, 1) := by decide +kernel
theorem dX6_film_75 : decode cX6_film 75 = .ok (.iload 6, 2) := by decide +kernel
theorem dX6_film_77 : decode cX6_film 77 = .ok (.invokevirtual 63, 3) := by decide +kernel
theorem dX6_film_80 : decode cX6_film 80 = .ok (.i2l, 1) := by decide +kernel
theorem dX6_film_81 : decode cX6_film 81 = .ok (.lastore, 1) := by decide +kernel
theorem dX6_film_82 : decode cX6_film 82 = .ok (.iinc 6 1, 3) := by decide +kernel
theorem dX6_film_85 : decode cX6_film 85 = .ok (.goto (-31), 3) := by decide +kernel
theorem dX6_film_88 : decode cX6_film 88 = .ok (.iload_n 1, 1) := by decide +kernel
theorem dX6_film_89 : decode cX6_film 89 = .ok (.ireturn, 1) := by decide +kernel
set_option maxRecDepth 20000 in
theorem ggX6_sheet_X6_isSheet : GoodIn wsX6_sheet wsX6_isSheet := goodIn_r _ [7, 8, 9, 10, 6, 11] (by decide +kernel) (by decide +kernel)
set_option maxRecDepth 20000 in
theorem gX6_sheet_X6_isSheet : GoodIn wsX6_sheet (va_wsS RX6 203 yX6_isSheet wsX6_isSheet) := goodIn_app (goodIn_of _ (by decide +kernel)) ggX6_sheet_X6_isSheet
set_option maxRecDepth 20000 in
theorem ggX6_sheet_X6_isLane : GoodIn wsX6_sheet wsX6_isLane := goodIn_r _ [14, 8, 9, 10, 6, 11] (by decide +kernel) (by decide +kernel)
set_option maxRecDepth 20000 in
theorem gX6_sheet_X6_isLane : GoodIn wsX6_sheet (va_wsS RX6 206 yX6_isLane wsX6_isLane) := goodIn_app (goodIn_of _ (by decide +kernel)) ggX6_sheet_X6_isLane
theorem dX6_sheet_0 : decode cX6_sheet 0 = .ok (.iload_n 1, 1) := by decide +kernel
theorem dX6_sheet_1 : decode cX6_sheet 1 = .ok (.invokestatic 203, 3) := by decide +kernel
theorem dX6_sheet_4 : decode cX6_sheet 4 = .ok (.ifCond .eq 16, 3) := by decide +kernel
theorem dX6_sheet_7 : decode cX6_sheet 7 = .ok (.iload_n 2, 1) := by decide +kernel
theorem dX6_sheet_8 : decode cX6_sheet 8 = .ok (.invokestatic 206, 3) := by decide +kernel
theorem dX6_sheet_11 : decode cX6_sheet 11 = .ok (.ifCond .eq 9, 3) := by decide +kernel
theorem dX6_sheet_14 : decode cX6_sheet 14 = .ok (.iload_n 3, 1) := by decide +kernel
theorem dX6_sheet_15 : decode cX6_sheet 15 = .ok (.bipush 24, 2) := by decide +kernel
theorem dX6_sheet_17 : decode cX6_sheet 17 = .ok (.if_icmp .le 5, 3) := by decide +kernel
theorem dX6_sheet_20 : decode cX6_sheet 20 = .ok (.iconst (-1), 1) := by decide +kernel
theorem dX6_sheet_21 : decode cX6_sheet 21 = .ok (.ireturn, 1) := by decide +kernel
theorem dX6_sheet_22 : decode cX6_sheet 22 = .ok (.iload_n 3, 1) := by decide +kernel
theorem dX6_sheet_23 : decode cX6_sheet 23 = .ok (.ifCond .ge 6, 3) := by decide +kernel
theorem dX6_sheet_26 : decode cX6_sheet 26 = .ok (.bipush (-14), 2) := by decide +kernel
theorem dX6_sheet_28 : decode cX6_sheet 28 = .ok (.ireturn, 1) := by decide +kernel
theorem dX6_sheet_29 : decode cX6_sheet 29 = .ok (.aload_n 0, 1) := by decide +kernel
theorem dX6_sheet_30 : decode cX6_sheet 30 = .ok (.getfield 34, 3) := by decide +kernel
theorem dX6_sheet_33 : decode cX6_sheet 33 = .ok (.iload_n 1, 1) := by decide +kernel
theorem dX6_sheet_34 : decode cX6_sheet 34 = .ok (.iload_n 2, 1) := by decide +kernel
theorem dX6_sheet_35 : decode cX6_sheet 35 = .ok (.iastore, 1) := by decide +kernel
theorem dX6_sheet_36 : decode cX6_sheet 36 = .ok (.aload_n 0, 1) := by decide +kernel
theorem dX6_sheet_37 : decode cX6_sheet 37 = .ok (.getfield 37, 3) := by decide +kernel
theorem dX6_sheet_40 : decode cX6_sheet 40 = .ok (.iload_n 1, 1) := by decide +kernel
theorem dX6_sheet_41 : decode cX6_sheet 41 = .ok (.iload_n 3, 1) := by decide +kernel
theorem dX6_sheet_42 : decode cX6_sheet 42 = .ok (.iastore, 1) := by decide +kernel
theorem dX6_sheet_43 : decode cX6_sheet 43 = .ok (.iconst 0, 1) := by decide +kernel
theorem dX6_sheet_44 : decode cX6_sheet 44 = .ok (.istore 4, 2) := by decide +kernel
theorem dX6_sheet_46 : decode cX6_sheet 46 = .ok (.iload 4, 2) := by decide +kernel
theorem dX6_sheet_48 : decode cX6_sheet 48 = .ok (.bipush 24, 2) := by decide +kernel
theorem dX6_sheet_50 : decode cX6_sheet 50 = .ok (.if_icmp .ge 22, 3) := by decide +kernel
theorem dX6_sheet_53 : decode cX6_sheet 53 = .ok (.aload_n 0, 1) := by decide +kernel
theorem dX6_sheet_54 : decode cX6_sheet 54 = .ok (.getfield 40, 3) := by decide +kernel
theorem dX6_sheet_57 : decode cX6_sheet 57 = .ok (.bipush 24, 2) := by decide +kernel
theorem dX6_sheet_59 : decode cX6_sheet 59 = .ok (.iload_n 1, 1) := by decide +kernel
theorem dX6_sheet_60 : decode cX6_sheet 60 = .ok (.imul, 1) := by decide +kernel
theorem dX6_sheet_61 : decode cX6_sheet 61 = .ok (.iload 4, 2) := by decide +kernel
theorem dX6_sheet_63 : decode cX6_sheet 63 = .ok (.iadd, 1) := by decide +kernel
theorem dX6_sheet_64 : decode cX6_sheet 64 = .ok (.lconst 0, 1) := by decide +kernel
theorem dX6_sheet_65 : decode cX6_sheet 65 = .ok (.lastore, 1) := by decide +kernel
theorem dX6_sheet_66 : decode cX6_sheet 66 = .ok (.iinc 4 1, 3) := by decide +kernel
theorem dX6_sheet_69 : decode cX6_sheet 69 = .ok (.goto (-23), 3) := by decide +kernel
theorem dX6_sheet_72 : decode cX6_sheet 72 = .ok (.iload_n 3, 1) := by decide +kernel
theorem dX6_sheet_73 : decode cX6_sheet 73 = .ok (.ireturn, 1) := by decide +kernel
set_option maxRecDepth 20000 in
theorem ggX6_drop_X6_isSheet : GoodIn wsX6_drop wsX6_isSheet := goodIn_r _ [6, 7, 8, 9, 5, 10] (by decide +kernel) (by decide +kernel)
set_option maxRecDepth 20000 in
theorem gX6_drop_X6_isSheet : GoodIn wsX6_drop (va_wsS RX6 203 yX6_isSheet wsX6_isSheet) := goodIn_app (goodIn_of _ (by decide +kernel)) ggX6_drop_X6_isSheet
theorem dX6_drop_0 : decode cX6_drop 0 = .ok (.iload_n 1, 1) := by decide +kernel
theorem dX6_drop_1 : decode cX6_drop 1 = .ok (.invokestatic 203, 3) := by decide +kernel
theorem dX6_drop_4 : decode cX6_drop 4 = .ok (.ifCond .ne 5, 3) := by decide +kernel
theorem dX6_drop_7 : decode cX6_drop 7 = .ok (.iconst (-1), 1) := by decide +kernel
theorem dX6_drop_8 : decode cX6_drop 8 = .ok (.ireturn, 1) := by decide +kernel
theorem dX6_drop_9 : decode cX6_drop 9 = .ok (.aload_n 0, 1) := by decide +kernel
theorem dX6_drop_10 : decode cX6_drop 10 = .ok (.getfield 34, 3) := by decide +kernel
theorem dX6_drop_13 : decode cX6_drop 13 = .ok (.iload_n 1, 1) := by decide +kernel
theorem dX6_drop_14 : decode cX6_drop 14 = .ok (.iaload, 1) := by decide +kernel
theorem dX6_drop_15 : decode cX6_drop 15 = .ok (.ifCond .ge 6, 3) := by decide +kernel
theorem dX6_drop_18 : decode cX6_drop 18 = .ok (.bipush (-11), 2) := by decide +kernel
theorem dX6_drop_20 : decode cX6_drop 20 = .ok (.ireturn, 1) := by decide +kernel
theorem dX6_drop_21 : decode cX6_drop 21 = .ok (.aload_n 0, 1) := by decide +kernel
theorem dX6_drop_22 : decode cX6_drop 22 = .ok (.getfield 34, 3) := by decide +kernel
theorem dX6_drop_25 : decode cX6_drop 25 = .ok (.iload_n 1, 1) := by decide +kernel
theorem dX6_drop_26 : decode cX6_drop 26 = .ok (.iconst (-1), 1) := by decide +kernel
theorem dX6_drop_27 : decode cX6_drop 27 = .ok (.iastore, 1) := by decide +kernel
theorem dX6_drop_28 : decode cX6_drop 28 = .ok (.aload_n 0, 1) := by decide +kernel
theorem dX6_drop_29 : decode cX6_drop 29 = .ok (.getfield 37, 3) := by decide +kernel
theorem dX6_drop_32 : decode cX6_drop 32 = .ok (.iload_n 1, 1) := by decide +kernel
theorem dX6_drop_33 : decode cX6_drop 33 = .ok (.iaload, 1) := by decide +kernel
theorem dX6_drop_34 : decode cX6_drop 34 = .ok (.ireturn, 1) := by decide +kernel
set_option maxRecDepth 20000 in
theorem ggX6_item_X6_isSheet : GoodIn wsX6_item wsX6_isSheet := goodIn_r _ [5, 6, 7, 8, 4, 9] (by decide +kernel) (by decide +kernel)
set_option maxRecDepth 20000 in
theorem gX6_item_X6_isSheet : GoodIn wsX6_item (va_wsS RX6 203 yX6_isSheet wsX6_isSheet) := goodIn_app (goodIn_of _ (by decide +kernel)) ggX6_item_X6_isSheet
set_option maxRecDepth 20000 in
theorem ggX6_item_X6_isLane : GoodIn wsX6_item wsX6_isLane := goodIn_r _ [12, 6, 7, 8, 4, 9] (by decide +kernel) (by decide +kernel)
set_option maxRecDepth 20000 in
theorem gX6_item_X6_isLane : GoodIn wsX6_item (va_wsS RX6 206 yX6_isLane wsX6_isLane) := goodIn_app (goodIn_of _ (by decide +kernel)) ggX6_item_X6_isLane
set_option maxRecDepth 20000 in
theorem ggX6_item_X6_why : GoodIn wsX6_item wsX6_why := goodIn_r _ [16, 17, 18, 19, 20, 21, 22, 23, 24, 25, 26, 27, 28, 29, 30, 31, 32, 33, 34, 35, 36, 37, 38] (by decide +kernel) (by decide +kernel)
set_option maxRecDepth 20000 in
theorem gX6_item_X6_why : GoodIn wsX6_item (wsV RX6 209 RX6 yX6_why wsX6_why) := goodIn_app (goodIn_of _ (by decide +kernel)) ggX6_item_X6_why
theorem dX6_item_0 : decode cX6_item 0 = .ok (.iload_n 1, 1) := by decide +kernel
theorem dX6_item_1 : decode cX6_item 1 = .ok (.invokestatic 203, 3) := by decide +kernel
theorem dX6_item_4 : decode cX6_item 4 = .ok (.ifCond .eq 10, 3) := by decide +kernel
theorem dX6_item_7 : decode cX6_item 7 = .ok (.iload_n 2, 1) := by decide +kernel
theorem dX6_item_8 : decode cX6_item 8 = .ok (.invokestatic 206, 3) := by decide +kernel
theorem dX6_item_11 : decode cX6_item 11 = .ok (.ifCond .ne 5, 3) := by decide +kernel
theorem dX6_item_14 : decode cX6_item 14 = .ok (.iconst (-1), 1) := by decide +kernel
theorem dX6_item_15 : decode cX6_item 15 = .ok (.ireturn, 1) := by decide +kernel
theorem dX6_item_16 : decode cX6_item 16 = .ok (.aload_n 0, 1) := by decide +kernel
theorem dX6_item_17 : decode cX6_item 17 = .ok (.iload_n 1, 1) := by decide +kernel
theorem dX6_item_18 : decode cX6_item 18 = .ok (.iload_n 2, 1) := by decide +kernel
theorem dX6_item_19 : decode cX6_item 19 = .ok (.iload_n 3, 1) := by decide +kernel
theorem dX6_item_20 : decode cX6_item 20 = .ok (.iconst 1, 1) := by decide +kernel
theorem dX6_item_21 : decode cX6_item 21 = .ok (.invokevirtual 209, 3) := by decide +kernel
theorem dX6_item_24 : decode cX6_item 24 = .ok (.istore 6, 2) := by decide +kernel
theorem dX6_item_26 : decode cX6_item 26 = .ok (.iload 6, 2) := by decide +kernel
theorem dX6_item_28 : decode cX6_item 28 = .ok (.ifCond .ge 6, 3) := by decide +kernel
theorem dX6_item_31 : decode cX6_item 31 = .ok (.iload 6, 2) := by decide +kernel
theorem dX6_item_33 : decode cX6_item 33 = .ok (.ireturn, 1) := by decide +kernel
theorem dX6_item_34 : decode cX6_item 34 = .ok (.aload_n 0, 1) := by decide +kernel
theorem dX6_item_35 : decode cX6_item 35 = .ok (.getfield 40, 3) := by decide +kernel
theorem dX6_item_38 : decode cX6_item 38 = .ok (.bipush 24, 2) := by decide +kernel
theorem dX6_item_40 : decode cX6_item 40 = .ok (.iload_n 1, 1) := by decide +kernel
theorem dX6_item_41 : decode cX6_item 41 = .ok (.imul, 1) := by decide +kernel
theorem dX6_item_42 : decode cX6_item 42 = .ok (.iload_n 3, 1) := by decide +kernel
theorem dX6_item_43 : decode cX6_item 43 = .ok (.iadd, 1) := by decide +kernel
theorem dX6_item_44 : decode cX6_item 44 = .ok (.iload_n 2, 1) := by decide +kernel
theorem dX6_item_45 : decode cX6_item 45 = .ok (.ifCond .ne 11, 3) := by decide +kernel
theorem dX6_item_48 : decode cX6_item 48 = .ok (.lload 4, 2) := by decide +kernel
theorem dX6_item_50 : decode cX6_item 50 = .ok (.l2i, 1) := by decide +kernel
theorem dX6_item_51 : decode cX6_item 51 = .ok (.i2b, 1) := by decide +kernel
theorem dX6_item_52 : decode cX6_item 52 = .ok (.i2l, 1) := by decide +kernel
theorem dX6_item_53 : decode cX6_item 53 = .ok (.goto 30, 3) := by decide +kernel
theorem dX6_item_56 : decode cX6_item 56 = .ok (.iload_n 2, 1) := by decide +kernel
theorem dX6_item_57 : decode cX6_item 57 = .ok (.iconst 1, 1) := by decide +kernel
theorem dX6_item_58 : decode cX6_item 58 = .ok (.if_icmp .ne 11, 3) := by decide +kernel
theorem dX6_item_61 : decode cX6_item 61 = .ok (.lload 4, 2) := by decide +kernel
theorem dX6_item_63 : decode cX6_item 63 = .ok (.l2i, 1) := by decide +kernel
theorem dX6_item_64 : decode cX6_item 64 = .ok (.i2s, 1) := by decide +kernel
theorem dX6_item_65 : decode cX6_item 65 = .ok (.i2l, 1) := by decide +kernel
theorem dX6_item_66 : decode cX6_item 66 = .ok (.goto 17, 3) := by decide +kernel
theorem dX6_item_69 : decode cX6_item 69 = .ok (.iload_n 2, 1) := by decide +kernel
theorem dX6_item_70 : decode cX6_item 70 = .ok (.iconst 2, 1) := by decide +kernel
theorem dX6_item_71 : decode cX6_item 71 = .ok (.if_icmp .ne 10, 3) := by decide +kernel
theorem dX6_item_74 : decode cX6_item 74 = .ok (.lload 4, 2) := by decide +kernel
theorem dX6_item_76 : decode cX6_item 76 = .ok (.l2i, 1) := by decide +kernel
theorem dX6_item_77 : decode cX6_item 77 = .ok (.i2l, 1) := by decide +kernel
theorem dX6_item_78 : decode cX6_item 78 = .ok (.goto 5, 3) := by decide +kernel
theorem dX6_item_81 : decode cX6_item 81 = .ok (.lload 4, 2) := by decide +kernel
theorem dX6_item_83 : decode cX6_item 83 = .ok (.lastore, 1) := by decide +kernel
theorem dX6_item_84 : decode cX6_item 84 = .ok (.iconst 1, 1) := by decide +kernel
theorem dX6_item_85 : decode cX6_item 85 = .ok (.ireturn, 1) := by decide +kernel
set_option maxRecDepth 20000 in
theorem ggX6_copy_X6_isSheet : GoodIn wsX6_copy wsX6_isSheet := goodIn_r _ [7, 8, 9, 10, 6, 11] (by decide +kernel) (by decide +kernel)
set_option maxRecDepth 20000 in
theorem gX6_copy_X6_isSheet : GoodIn wsX6_copy (va_wsS RX6 203 yX6_isSheet wsX6_isSheet) := goodIn_app (goodIn_of _ (by decide +kernel)) ggX6_copy_X6_isSheet
set_option maxRecDepth 20000 in
theorem ggX6_copy_X6_why : GoodIn wsX6_copy wsX6_why := goodIn_r _ [15, 1, 16, 17, 18, 19, 20, 21, 22, 23, 24, 25, 26, 27, 28, 29, 30, 31, 32, 33, 34, 35, 36] (by decide +kernel) (by decide +kernel)
set_option maxRecDepth 20000 in
theorem gX6_copy_X6_why : GoodIn wsX6_copy (wsV RX6 209 RX6 yX6_why wsX6_why) := goodIn_app (goodIn_of _ (by decide +kernel)) ggX6_copy_X6_why
theorem dX6_copy_0 : decode cX6_copy 0 = .ok (.iload_n 1, 1) := by decide +kernel
theorem dX6_copy_1 : decode cX6_copy 1 = .ok (.invokestatic 203, 3) := by decide +kernel
theorem dX6_copy_4 : decode cX6_copy 4 = .ok (.ifCond .eq 10, 3) := by decide +kernel
theorem dX6_copy_7 : decode cX6_copy 7 = .ok (.iload_n 3, 1) := by decide +kernel
theorem dX6_copy_8 : decode cX6_copy 8 = .ok (.invokestatic 203, 3) := by decide +kernel
theorem dX6_copy_11 : decode cX6_copy 11 = .ok (.ifCond .ne 5, 3) := by decide +kernel
theorem dX6_copy_14 : decode cX6_copy 14 = .ok (.iconst (-1), 1) := by decide +kernel
theorem dX6_copy_15 : decode cX6_copy 15 = .ok (.ireturn, 1) := by decide +kernel
theorem dX6_copy_16 : decode cX6_copy 16 = .ok (.aload_n 0, 1) := by decide +kernel
theorem dX6_copy_17 : decode cX6_copy 17 = .ok (.getfield 34, 3) := by decide +kernel
theorem dX6_copy_20 : decode cX6_copy 20 = .ok (.iload_n 1, 1) := by decide +kernel
theorem dX6_copy_21 : decode cX6_copy 21 = .ok (.iaload, 1) := by decide +kernel
theorem dX6_copy_22 : decode cX6_copy 22 = .ok (.ifCond .lt 12, 3) := by decide +kernel
theorem dX6_copy_25 : decode cX6_copy 25 = .ok (.aload_n 0, 1) := by decide +kernel
theorem dX6_copy_26 : decode cX6_copy 26 = .ok (.getfield 34, 3) := by decide +kernel
theorem dX6_copy_29 : decode cX6_copy 29 = .ok (.iload_n 3, 1) := by decide +kernel
theorem dX6_copy_30 : decode cX6_copy 30 = .ok (.iaload, 1) := by decide +kernel
theorem dX6_copy_31 : decode cX6_copy 31 = .ok (.ifCond .ge 6, 3) := by decide +kernel
theorem dX6_copy_34 : decode cX6_copy 34 = .ok (.bipush (-11), 2) := by decide +kernel
theorem dX6_copy_36 : decode cX6_copy 36 = .ok (.ireturn, 1) := by decide +kernel
theorem dX6_copy_37 : decode cX6_copy 37 = .ok (.aload_n 0, 1) := by decide +kernel
theorem dX6_copy_38 : decode cX6_copy 38 = .ok (.iload_n 3, 1) := by decide +kernel
theorem dX6_copy_39 : decode cX6_copy 39 = .ok (.aload_n 0, 1) := by decide +kernel
theorem dX6_copy_40 : decode cX6_copy 40 = .ok (.getfield 34, 3) := by decide +kernel
theorem dX6_copy_43 : decode cX6_copy 43 = .ok (.iload_n 1, 1) := by decide +kernel
theorem dX6_copy_44 : decode cX6_copy 44 = .ok (.iaload, 1) := by decide +kernel
theorem dX6_copy_45 : decode cX6_copy 45 = .ok (.iload 4, 2) := by decide +kernel
theorem dX6_copy_47 : decode cX6_copy 47 = .ok (.iload 5, 2) := by decide +kernel
theorem dX6_copy_49 : decode cX6_copy 49 = .ok (.invokevirtual 209, 3) := by decide +kernel
theorem dX6_copy_52 : decode cX6_copy 52 = .ok (.istore 6, 2) := by decide +kernel
theorem dX6_copy_54 : decode cX6_copy 54 = .ok (.iload 6, 2) := by decide +kernel
theorem dX6_copy_56 : decode cX6_copy 56 = .ok (.ifCond .ne 20, 3) := by decide +kernel
theorem dX6_copy_59 : decode cX6_copy 59 = .ok (.aload_n 0, 1) := by decide +kernel
theorem dX6_copy_60 : decode cX6_copy 60 = .ok (.iload_n 1, 1) := by decide +kernel
theorem dX6_copy_61 : decode cX6_copy 61 = .ok (.aload_n 0, 1) := by decide +kernel
theorem dX6_copy_62 : decode cX6_copy 62 = .ok (.getfield 34, 3) := by decide +kernel
theorem dX6_copy_65 : decode cX6_copy 65 = .ok (.iload_n 1, 1) := by decide +kernel
theorem dX6_copy_66 : decode cX6_copy 66 = .ok (.iaload, 1) := by decide +kernel
theorem dX6_copy_67 : decode cX6_copy 67 = .ok (.iload_n 2, 1) := by decide +kernel
theorem dX6_copy_68 : decode cX6_copy 68 = .ok (.iload 5, 2) := by decide +kernel
theorem dX6_copy_70 : decode cX6_copy 70 = .ok (.invokevirtual 209, 3) := by decide +kernel
theorem dX6_copy_73 : decode cX6_copy 73 = .ok (.goto 5, 3) := by decide +kernel
theorem dX6_copy_76 : decode cX6_copy 76 = .ok (.iload 6, 2) := by decide +kernel
theorem dX6_copy_78 : decode cX6_copy 78 = .ok (.istore 6, 2) := by decide +kernel
theorem dX6_copy_80 : decode cX6_copy 80 = .ok (.iload 6, 2) := by decide +kernel
theorem dX6_copy_82 : decode cX6_copy 82 = .ok (.ifCond .ge 6, 3) := by decide +kernel
theorem dX6_copy_85 : decode cX6_copy 85 = .ok (.iload 6, 2) := by decide +kernel
theorem dX6_copy_87 : decode cX6_copy 87 = .ok (.ireturn, 1) := by decide +kernel
theorem dX6_copy_88 : decode cX6_copy 88 = .ok (.iconst 0, 1) := by decide +kernel
theorem dX6_copy_89 : decode cX6_copy 89 = .ok (.istore 7, 2) := by decide +kernel
theorem dX6_copy_91 : decode cX6_copy 91 = .ok (.iload 7, 2) := by decide +kernel
theorem dX6_copy_93 : decode cX6_copy 93 = .ok (.iload 5, 2) := by decide +kernel
theorem dX6_copy_95 : decode cX6_copy 95 = .ok (.if_icmp .ge 30, 3) := by decide +kernel
theorem dX6_copy_98 : decode cX6_copy 98 = .ok (.aload_n 0, 1) := by decide +kernel
theorem dX6_copy_99 : decode cX6_copy 99 = .ok (.getfield 44, 3) := by decide +kernel
theorem dX6_copy_102 : decode cX6_copy 102 = .ok (.iload 7, 2) := by decide +kernel
theorem dX6_copy_104 : decode cX6_copy 104 = .ok (.aload_n 0, 1) := by decide +kernel
theorem dX6_copy_105 : decode cX6_copy 105 = .ok (.getfield 40, 3) := by decide +kernel
theorem dX6_copy_108 : decode cX6_copy 108 = .ok (.bipush 24, 2) := by decide +kernel
theorem dX6_copy_110 : decode cX6_copy 110 = .ok (.iload_n 1, 1) := by decide +kernel
theorem dX6_copy_111 : decode cX6_copy 111 = .ok (.imul, 1) := by decide +kernel
theorem dX6_copy_112 : decode cX6_copy 112 = .ok (.iload_n 2, 1) := by decide +kernel
theorem dX6_copy_113 : decode cX6_copy 113 = .ok (.iadd, 1) := by decide +kernel
theorem dX6_copy_114 : decode cX6_copy 114 = .ok (.iload 7, 2) := by decide +kernel
theorem dX6_copy_116 : decode cX6_copy 116 = .ok (.iadd, 1) := by decide +kernel
theorem dX6_copy_117 : decode cX6_copy 117 = .ok (.laload, 1) := by decide +kernel
theorem dX6_copy_118 : decode cX6_copy 118 = .ok (.lastore, 1) := by decide +kernel
theorem dX6_copy_119 : decode cX6_copy 119 = .ok (.iinc 7 1, 3) := by decide +kernel
theorem dX6_copy_122 : decode cX6_copy 122 = .ok (.goto (-31), 3) := by decide +kernel
theorem dX6_copy_125 : decode cX6_copy 125 = .ok (.iconst 0, 1) := by decide +kernel
theorem dX6_copy_126 : decode cX6_copy 126 = .ok (.istore 7, 2) := by decide +kernel
theorem dX6_copy_128 : decode cX6_copy 128 = .ok (.iload 7, 2) := by decide +kernel
theorem dX6_copy_130 : decode cX6_copy 130 = .ok (.iload 5, 2) := by decide +kernel
theorem dX6_copy_132 : decode cX6_copy 132 = .ok (.if_icmp .ge 31, 3) := by decide +kernel
theorem dX6_copy_135 : decode cX6_copy 135 = .ok (.aload_n 0, 1) := by decide +kernel
theorem dX6_copy_136 : decode cX6_copy 136 = .ok (.getfield 40, 3) := by decide +kernel
theorem dX6_copy_139 : decode cX6_copy 139 = .ok (.bipush 24, 2) := by decide +kernel
theorem dX6_copy_141 : decode cX6_copy 141 = .ok (.iload_n 3, 1) := by decide +kernel
theorem dX6_copy_142 : decode cX6_copy 142 = .ok (.imul, 1) := by decide +kernel
theorem dX6_copy_143 : decode cX6_copy 143 = .ok (.iload 4, 2) := by decide +kernel
theorem dX6_copy_145 : decode cX6_copy 145 = .ok (.iadd, 1) := by decide +kernel
theorem dX6_copy_146 : decode cX6_copy 146 = .ok (.iload 7, 2) := by decide +kernel
theorem dX6_copy_148 : decode cX6_copy 148 = .ok (.iadd, 1) := by decide +kernel
theorem dX6_copy_149 : decode cX6_copy 149 = .ok (.aload_n 0, 1) := by decide +kernel
theorem dX6_copy_150 : decode cX6_copy 150 = .ok (.getfield 44, 3) := by decide +kernel
theorem dX6_copy_153 : decode cX6_copy 153 = .ok (.iload 7, 2) := by decide +kernel
theorem dX6_copy_155 : decode cX6_copy 155 = .ok (.laload, 1) := by decide +kernel
theorem dX6_copy_156 : decode cX6_copy 156 = .ok (.lastore, 1) := by decide +kernel
theorem dX6_copy_157 : decode cX6_copy 157 = .ok (.iinc 7 1, 3) := by decide +kernel
theorem dX6_copy_160 : decode cX6_copy 160 = .ok (.goto (-32), 3) := by decide +kernel
theorem dX6_copy_163 : decode cX6_copy 163 = .ok (.iload 5, 2) := by decide +kernel
theorem dX6_copy_165 : decode cX6_copy 165 = .ok (.ireturn, 1) := by decide +kernel
theorem dJ6_bitCount_0f7a4_0 : decode cJ6_bitCount_0f7a4 0 = .ok (.iload_n 0, 1) := by decide +kernel
theorem dJ6_bitCount_0f7a4_1 : decode cJ6_bitCount_0f7a4 1 = .ok (.iload_n 0, 1) := by decide +kernel
theorem dJ6_bitCount_0f7a4_2 : decode cJ6_bitCount_0f7a4 2 = .ok (.iconst 1, 1) := by decide +kernel
theorem dJ6_bitCount_0f7a4_3 : decode cJ6_bitCount_0f7a4 3 = .ok (.iushr, 1) := by decide +kernel
theorem dJ6_bitCount_0f7a4_4 : decode cJ6_bitCount_0f7a4 4 = .ok (.ldc_w 265, 3) := by decide +kernel
theorem dJ6_bitCount_0f7a4_7 : decode cJ6_bitCount_0f7a4 7 = .ok (.iand, 1) := by decide +kernel
theorem dJ6_bitCount_0f7a4_8 : decode cJ6_bitCount_0f7a4 8 = .ok (.isub, 1) := by decide +kernel
theorem dJ6_bitCount_0f7a4_9 : decode cJ6_bitCount_0f7a4 9 = .ok (.istore_n 0, 1) := by decide +kernel
theorem dJ6_bitCount_0f7a4_10 : decode cJ6_bitCount_0f7a4 10 = .ok (.iload_n 0, 1) := by decide +kernel
theorem dJ6_bitCount_0f7a4_11 : decode cJ6_bitCount_0f7a4 11 = .ok (.ldc_w 266, 3) := by decide +kernel
theorem dJ6_bitCount_0f7a4_14 : decode cJ6_bitCount_0f7a4 14 = .ok (.iand, 1) := by decide +kernel
theorem dJ6_bitCount_0f7a4_15 : decode cJ6_bitCount_0f7a4 15 = .ok (.iload_n 0, 1) := by decide +kernel
theorem dJ6_bitCount_0f7a4_16 : decode cJ6_bitCount_0f7a4 16 = .ok (.iconst 2, 1) := by decide +kernel
theorem dJ6_bitCount_0f7a4_17 : decode cJ6_bitCount_0f7a4 17 = .ok (.iushr, 1) := by decide +kernel
theorem dJ6_bitCount_0f7a4_18 : decode cJ6_bitCount_0f7a4 18 = .ok (.ldc_w 266, 3) := by decide +kernel
theorem dJ6_bitCount_0f7a4_21 : decode cJ6_bitCount_0f7a4 21 = .ok (.iand, 1) := by decide +kernel
theorem dJ6_bitCount_0f7a4_22 : decode cJ6_bitCount_0f7a4 22 = .ok (.iadd, 1) := by decide +kernel
theorem dJ6_bitCount_0f7a4_23 : decode cJ6_bitCount_0f7a4 23 = .ok (.istore_n 0, 1) := by decide +kernel
theorem dJ6_bitCount_0f7a4_24 : decode cJ6_bitCount_0f7a4 24 = .ok (.iload_n 0, 1) := by decide +kernel
theorem dJ6_bitCount_0f7a4_25 : decode cJ6_bitCount_0f7a4 25 = .ok (.iload_n 0, 1) := by decide +kernel
theorem dJ6_bitCount_0f7a4_26 : decode cJ6_bitCount_0f7a4 26 = .ok (.iconst 4, 1) := by decide +kernel
theorem dJ6_bitCount_0f7a4_27 : decode cJ6_bitCount_0f7a4 27 = .ok (.iushr, 1) := by decide +kernel
theorem dJ6_bitCount_0f7a4_28 : decode cJ6_bitCount_0f7a4 28 = .ok (.iadd, 1) := by decide +kernel
theorem dJ6_bitCount_0f7a4_29 : decode cJ6_bitCount_0f7a4 29 = .ok (.ldc_w 267, 3) := by decide +kernel
theorem dJ6_bitCount_0f7a4_32 : decode cJ6_bitCount_0f7a4 32 = .ok (.iand, 1) := by decide +kernel
theorem dJ6_bitCount_0f7a4_33 : decode cJ6_bitCount_0f7a4 33 = .ok (.istore_n 0, 1) := by decide +kernel
theorem dJ6_bitCount_0f7a4_34 : decode cJ6_bitCount_0f7a4 34 = .ok (.iload_n 0, 1) := by decide +kernel
theorem dJ6_bitCount_0f7a4_35 : decode cJ6_bitCount_0f7a4 35 = .ok (.iload_n 0, 1) := by decide +kernel
theorem dJ6_bitCount_0f7a4_36 : decode cJ6_bitCount_0f7a4 36 = .ok (.bipush 8, 2) := by decide +kernel
theorem dJ6_bitCount_0f7a4_38 : decode cJ6_bitCount_0f7a4 38 = .ok (.iushr, 1) := by decide +kernel
theorem dJ6_bitCount_0f7a4_39 : decode cJ6_bitCount_0f7a4 39 = .ok (.iadd, 1) := by decide +kernel
theorem dJ6_bitCount_0f7a4_40 : decode cJ6_bitCount_0f7a4 40 = .ok (.istore_n 0, 1) := by decide +kernel
theorem dJ6_bitCount_0f7a4_41 : decode cJ6_bitCount_0f7a4 41 = .ok (.iload_n 0, 1) := by decide +kernel
theorem dJ6_bitCount_0f7a4_42 : decode cJ6_bitCount_0f7a4 42 = .ok (.iload_n 0, 1) := by decide +kernel
theorem dJ6_bitCount_0f7a4_43 : decode cJ6_bitCount_0f7a4 43 = .ok (.bipush 16, 2) := by decide +kernel
theorem dJ6_bitCount_0f7a4_45 : decode cJ6_bitCount_0f7a4 45 = .ok (.iushr, 1) := by decide +kernel
theorem dJ6_bitCount_0f7a4_46 : decode cJ6_bitCount_0f7a4 46 = .ok (.iadd, 1) := by decide +kernel
theorem dJ6_bitCount_0f7a4_47 : decode cJ6_bitCount_0f7a4 47 = .ok (.istore_n 0, 1) := by decide +kernel
theorem dJ6_bitCount_0f7a4_48 : decode cJ6_bitCount_0f7a4 48 = .ok (.iload_n 0, 1) := by decide +kernel
theorem dJ6_bitCount_0f7a4_49 : decode cJ6_bitCount_0f7a4 49 = .ok (.bipush 63, 2) := by decide +kernel
theorem dJ6_bitCount_0f7a4_51 : decode cJ6_bitCount_0f7a4 51 = .ok (.iand, 1) := by decide +kernel
theorem dJ6_bitCount_0f7a4_52 : decode cJ6_bitCount_0f7a4 52 = .ok (.ireturn, 1) := by decide +kernel
theorem dJ9_abs_0f7a4_0 : decode cJ9_abs_0f7a4 0 = .ok (.iload_n 0, 1) := by decide +kernel
theorem dJ9_abs_0f7a4_1 : decode cJ9_abs_0f7a4 1 = .ok (.ifCond .ge 8, 3) := by decide +kernel
theorem dJ9_abs_0f7a4_4 : decode cJ9_abs_0f7a4 4 = .ok (.iload_n 0, 1) := by decide +kernel
theorem dJ9_abs_0f7a4_5 : decode cJ9_abs_0f7a4 5 = .ok (.ineg, 1) := by decide +kernel
theorem dJ9_abs_0f7a4_6 : decode cJ9_abs_0f7a4 6 = .ok (.goto 4, 3) := by decide +kernel
theorem dJ9_abs_0f7a4_9 : decode cJ9_abs_0f7a4 9 = .ok (.iload_n 0, 1) := by decide +kernel
theorem dJ9_abs_0f7a4_10 : decode cJ9_abs_0f7a4 10 = .ok (.ireturn, 1) := by decide +kernel
theorem dJ9_max_7cf53_0 : decode cJ9_max_7cf53 0 = .ok (.iload_n 0, 1) := by decide +kernel
theorem dJ9_max_7cf53_1 : decode cJ9_max_7cf53 1 = .ok (.iload_n 1, 1) := by decide +kernel
theorem dJ9_max_7cf53_2 : decode cJ9_max_7cf53 2 = .ok (.if_icmp .lt 7, 3) := by decide +kernel
theorem dJ9_max_7cf53_5 : decode cJ9_max_7cf53 5 = .ok (.iload_n 0, 1) := by decide +kernel
theorem dJ9_max_7cf53_6 : decode cJ9_max_7cf53 6 = .ok (.goto 4, 3) := by decide +kernel
theorem dJ9_max_7cf53_9 : decode cJ9_max_7cf53 9 = .ok (.iload_n 1, 1) := by decide +kernel
theorem dJ9_max_7cf53_10 : decode cJ9_max_7cf53 10 = .ok (.ireturn, 1) := by decide +kernel
theorem dJ9_min_7cf53_0 : decode cJ9_min_7cf53 0 = .ok (.iload_n 0, 1) := by decide +kernel
theorem dJ9_min_7cf53_1 : decode cJ9_min_7cf53 1 = .ok (.iload_n 1, 1) := by decide +kernel
theorem dJ9_min_7cf53_2 : decode cJ9_min_7cf53 2 = .ok (.if_icmp .gt 7, 3) := by decide +kernel
theorem dJ9_min_7cf53_5 : decode cJ9_min_7cf53 5 = .ok (.iload_n 0, 1) := by decide +kernel
theorem dJ9_min_7cf53_6 : decode cJ9_min_7cf53 6 = .ok (.goto 4, 3) := by decide +kernel
theorem dJ9_min_7cf53_9 : decode cJ9_min_7cf53 9 = .ok (.iload_n 1, 1) := by decide +kernel
theorem dJ9_min_7cf53_10 : decode cJ9_min_7cf53 10 = .ok (.ireturn, 1) := by decide +kernel
set_option maxRecDepth 20000 in
theorem ggL_law_X5_init : GoodIn wsL_law wsX5_init := goodIn_r _ [9, 10, 11, 12, 13, 14, 15, 16, 17, 18, 19, 20, 21, 22, 23, 24, 25, 26, 27, 28, 29, 30, 31, 32, 33, 34, 35, 36, 37, 38, 39, 40, 41, 42, 43, 44, 45, 46, 47, 48, 49, 50, 51, 52, 53, 54, 55, 56, 57, 58, 59, 60, 61, 62, 63, 64, 65, 66, 67, 68, 787, 788, 789, 790, 791, 792, 793, 794, 795, 796, 797, 798, 758, 759, 760, 761, 762, 763, 764, 765, 766, 799, 800, 801, 802, 803, 804, 805, 806, 807, 808, 809, 810, 811, 812, 813, 814, 815] (by decide +kernel) (by decide +kernel)
set_option maxRecDepth 20000 in
theorem gL_law_X5_init : GoodIn wsL_law (wsX5_init) := ggL_law_X5_init
set_option maxRecDepth 20000 in
theorem ggL_law_X6_init : GoodIn wsL_law wsX6_init := goodIn_r _ [71, 72, 11, 12, 39, 73, 74, 75, 76, 77, 78, 79, 80, 81, 82, 67, 83, 84, 767, 768, 769, 770, 771, 772, 773, 774, 775, 776, 777, 778, 779, 780, 781, 782, 783, 784, 785, 786] (by decide +kernel) (by decide +kernel)
set_option maxRecDepth 20000 in
theorem gL_law_X6_init : GoodIn wsL_law (wsX6_init) := ggL_law_X6_init
set_option maxRecDepth 20000 in
theorem ggL_law_X5_clerk : GoodIn wsL_law wsX5_clerk := goodIn_r _ [88, 16, 89, 21, 90, 91, 2, 92, 93, 94, 95, 15, 96, 97, 40, 41, 42, 43, 98, 99, 100, 101, 20, 102, 103, 758, 759, 760, 761, 762, 763, 764, 765, 766, 787, 788, 789, 790, 791, 792, 793, 794, 795, 796, 797, 798, 799, 800, 801, 802, 803, 804] (by decide +kernel) (by decide +kernel)
set_option maxRecDepth 20000 in
theorem gL_law_X5_clerk : GoodIn wsL_law (wsV RL 13 RX5 yX5_clerk wsX5_clerk) := goodIn_app (goodIn_of _ (by decide +kernel)) ggL_law_X5_clerk
set_option maxRecDepth 20000 in
theorem ggL_law_X6_clerk : GoodIn wsL_law wsX6_clerk := goodIn_r _ [107, 108, 109, 73, 110, 111, 5, 112, 113, 114, 115, 116, 117, 118, 119, 120, 767, 768, 769, 770, 771, 772, 773, 774, 775, 776, 777, 778, 779, 780, 781, 782, 783, 784, 785, 786] (by decide +kernel) (by decide +kernel)
set_option maxRecDepth 20000 in
theorem gL_law_X6_clerk : GoodIn wsL_law (wsV RL 17 RX6 yX6_clerk wsX6_clerk) := goodIn_app (goodIn_of _ (by decide +kernel)) ggL_law_X6_clerk
set_option maxRecDepth 20000 in
theorem ggL_law_X5_of : GoodIn wsL_law wsX5_of := goodIn_r _ [124, 16, 125, 126, 127, 128, 129, 130, 131, 2, 132, 89, 133, 134, 135, 15, 136, 98, 137, 138, 139, 140, 42, 43, 141, 142, 143, 144, 40, 145, 146, 758, 759, 760, 761, 762, 763, 764, 765, 766, 787, 788, 789, 790, 791, 792, 793, 794, 795, 796, 797, 798] (by decide +kernel) (by decide +kernel)
set_option maxRecDepth 20000 in
theorem gL_law_X5_of : GoodIn wsL_law (wsV RL 18 RX5 yX5_of wsX5_of) := goodIn_app (goodIn_of _ (by decide +kernel)) ggL_law_X5_of
set_option maxRecDepth 20000 in
theorem ggL_law_X6_of : GoodIn wsL_law wsX6_of := goodIn_r _ [150, 151, 152, 153, 154, 5, 155, 73, 110, 111, 112, 156, 157, 158, 159, 160, 161, 162, 163, 164, 165, 166, 167, 168, 169, 170, 171, 767, 768, 769, 770, 771, 772, 773, 774, 775, 776, 777, 778, 779, 780, 781, 782, 783, 784, 785, 786] (by decide +kernel) (by decide +kernel)
set_option maxRecDepth 20000 in
theorem gL_law_X6_of : GoodIn wsL_law (wsV RL 22 RX6 yX6_of wsX6_of) := goodIn_app (goodIn_of _ (by decide +kernel)) ggL_law_X6_of
set_option maxRecDepth 20000 in
theorem ggL_law_X5_desk : GoodIn wsL_law wsX5_desk := goodIn_r _ [175, 16, 126, 129, 130, 131, 2, 132, 89, 90, 91, 92, 758, 759, 760, 761, 762, 763, 764, 765, 766, 787, 788, 789, 790, 791, 792, 793, 794, 795, 796, 797, 798] (by decide +kernel) (by decide +kernel)
set_option maxRecDepth 20000 in
theorem gL_law_X5_desk : GoodIn wsL_law (wsV RL 23 RX5 yX5_desk wsX5_desk) := goodIn_app (goodIn_of _ (by decide +kernel)) ggL_law_X5_desk
set_option maxRecDepth 20000 in
theorem ggL_law_X6_desk : GoodIn wsL_law wsX6_desk := goodIn_r _ [179, 73, 152, 153, 154, 5, 155, 110, 111, 112, 113, 114, 115, 109, 156, 157, 158, 159, 767, 768, 769, 770, 771, 772, 773, 774, 775, 776, 777, 778, 779, 780, 781, 782, 783, 784, 785, 786] (by decide +kernel) (by decide +kernel)
set_option maxRecDepth 20000 in
theorem gL_law_X6_desk : GoodIn wsL_law (wsV RL 26 RX6 yX6_desk wsX6_desk) := goodIn_app (goodIn_of _ (by decide +kernel)) ggL_law_X6_desk
set_option maxRecDepth 20000 in
theorem ggL_law_X5_rule : GoodIn wsL_law wsX5_rule := goodIn_r _ [183, 16, 184, 185, 758, 759, 760, 761, 762, 763, 764, 765, 766, 787, 788, 789, 790, 791, 792, 793, 794, 795, 796, 797, 798] (by decide +kernel) (by decide +kernel)
set_option maxRecDepth 20000 in
theorem gL_law_X5_rule : GoodIn wsL_law (wsV RL 27 RX5 yX5_rule wsX5_rule) := goodIn_app (goodIn_of _ (by decide +kernel)) ggL_law_X5_rule
set_option maxRecDepth 20000 in
theorem ggL_law_X6_rule : GoodIn wsL_law wsX6_rule := goodIn_r _ [189, 109, 73, 110, 111, 5, 112, 767, 768, 769, 770, 771, 772, 773, 774, 775, 776, 777, 778, 779, 780, 781, 782, 783, 784, 785, 786] (by decide +kernel) (by decide +kernel)
set_option maxRecDepth 20000 in
theorem gL_law_X6_rule : GoodIn wsL_law (wsV RL 30 RX6 yX6_rule wsX6_rule) := goodIn_app (goodIn_of _ (by decide +kernel)) ggL_law_X6_rule
set_option maxRecDepth 20000 in
theorem ggL_law_X5_type : GoodIn wsL_law wsX5_type := goodIn_r _ [193, 25, 194, 195, 196, 24, 197, 198, 58, 758, 759, 760, 761, 762, 763, 764, 765, 766, 805, 806, 807, 808] (by decide +kernel) (by decide +kernel)
set_option maxRecDepth 20000 in
theorem gL_law_X5_type : GoodIn wsL_law (wsV RL 31 RX5 yX5_type wsX5_type) := goodIn_app (goodIn_of _ (by decide +kernel)) ggL_law_X5_type
set_option maxRecDepth 20000 in
theorem ggL_law_X6_type : GoodIn wsL_law wsX6_type := goodIn_r _ [202, 203, 204, 205, 75, 110, 111, 5, 112, 767, 768, 769, 770, 771, 772, 773, 774, 775, 776, 777, 778, 779, 780, 781, 782, 783, 784, 785, 786] (by decide +kernel) (by decide +kernel)
set_option maxRecDepth 20000 in
theorem gL_law_X6_type : GoodIn wsL_law (wsV RL 35 RX6 yX6_type wsX6_type) := goodIn_app (goodIn_of _ (by decide +kernel)) ggL_law_X6_type
set_option maxRecDepth 20000 in
theorem ggL_law_X5_office : GoodIn wsL_law wsX5_office := goodIn_r _ [209, 25, 17, 16, 210, 21, 211, 212, 213, 24, 214, 215, 216, 217, 218, 219, 220, 221, 222, 15, 223, 97, 98, 145, 224, 225, 226, 227, 228, 229, 230, 231, 198, 58, 232, 233, 234, 235, 236, 237, 238, 239, 240, 241, 242, 243, 244, 245, 246, 247, 248, 249, 250, 251, 252, 253, 254, 255, 256, 257, 258, 259, 260, 261, 94, 95, 96, 40, 41, 42, 43, 262, 263, 264, 265, 266, 267, 268, 269, 270, 271, 272, 273, 44, 45, 46, 99, 100, 101, 20, 102, 103, 758, 759, 760, 761, 762, 763, 764, 765, 766, 787, 788, 789, 790, 791, 792, 793, 794, 795, 796, 797, 798, 805, 806, 807, 808, 799, 800, 801, 802, 803, 804] (by decide +kernel) (by decide +kernel)
set_option maxRecDepth 20000 in
theorem gL_law_X5_office : GoodIn wsL_law (wsV RL 36 RX5 yX5_office wsX5_office) := goodIn_app (goodIn_of _ (by decide +kernel)) ggL_law_X5_office
set_option maxRecDepth 20000 in
theorem ggL_law_X6_office : GoodIn wsL_law wsX6_office := goodIn_r _ [277, 278, 279, 205, 73, 76, 280, 281, 282, 5, 283, 284, 285, 286, 287, 75, 110, 111, 112, 288, 289, 290, 291, 292, 293, 294, 295, 296, 297, 298, 299, 300, 301, 302, 303, 304, 305, 116, 117, 118, 119, 120, 767, 768, 769, 770, 771, 772, 773, 774, 775, 776, 777, 778, 779, 780, 781, 782, 783, 784, 785, 786] (by decide +kernel) (by decide +kernel)
set_option maxRecDepth 20000 in
theorem gL_law_X6_office : GoodIn wsL_law (wsV RL 40 RX6 yX6_office wsX6_office) := goodIn_app (goodIn_of _ (by decide +kernel)) ggL_law_X6_office
set_option maxRecDepth 20000 in
theorem ggL_law_X5_count : GoodIn wsL_law wsX5_count := goodIn_r _ [309, 16, 89, 310, 184, 185, 311, 21, 312, 313, 314, 315, 15, 316, 97, 43, 44, 317, 318, 319, 320, 758, 759, 760, 761, 762, 763, 764, 765, 766, 787, 788, 789, 790, 791, 792, 793, 794, 795, 796, 797, 798, 799, 800, 801, 802, 803, 804] (by decide +kernel) (by decide +kernel)
set_option maxRecDepth 20000 in
theorem gL_law_X5_count : GoodIn wsL_law (wsV RL 41 RX5 yX5_count wsX5_count) := goodIn_app (goodIn_of _ (by decide +kernel)) ggL_law_X5_count
set_option maxRecDepth 20000 in
theorem ggL_law_X6_count : GoodIn wsL_law wsX6_count := goodIn_r _ [324, 73, 120, 325, 326, 327, 5, 328, 329, 330, 331, 332, 168, 169, 170, 171, 156, 157, 158, 159, 333, 334, 335, 336, 164, 165, 166, 167, 767, 768, 769, 770, 771, 772, 773, 774, 775, 776, 777, 778, 779, 780, 781, 782, 783, 784, 785, 786] (by decide +kernel) (by decide +kernel)
set_option maxRecDepth 20000 in
theorem gL_law_X6_count : GoodIn wsL_law (wsV RL 44 RX6 yX6_count wsX6_count) := goodIn_app (goodIn_of _ (by decide +kernel)) ggL_law_X6_count
set_option maxRecDepth 20000 in
theorem ggL_law_X5_minutes : GoodIn wsL_law wsX5_minutes := goodIn_r _ [340, 21, 16, 341, 342, 343, 2, 344, 310, 345, 346, 347, 20, 348, 349, 51, 350, 351, 271, 272, 273, 52, 352, 53, 353, 54, 354, 103, 355, 356, 143, 357, 358, 359, 360, 15, 361, 97, 40, 145, 43, 146, 134, 135, 136, 98, 313, 314, 315, 316, 44, 758, 759, 760, 761, 762, 763, 764, 765, 766, 787, 788, 789, 790, 791, 792, 793, 794, 795, 796, 797, 798, 799, 800, 801, 802, 803, 804] (by decide +kernel) (by decide +kernel)
set_option maxRecDepth 20000 in
theorem gL_law_X5_minutes : GoodIn wsL_law (wsV RL 45 RX5 yX5_minutes wsX5_minutes) := goodIn_app (goodIn_of _ (by decide +kernel)) ggL_law_X5_minutes
set_option maxRecDepth 20000 in
theorem ggL_law_X6_minutes : GoodIn wsL_law wsX6_minutes := goodIn_r _ [365, 366, 73, 110, 111, 5, 112, 367, 368, 369, 370, 120, 77, 168, 169, 170, 171, 156, 157, 158, 159, 371, 372, 373, 374, 164, 165, 166, 167, 325, 326, 327, 328, 329, 330, 331, 332, 767, 768, 769, 770, 771, 772, 773, 774, 775, 776, 777, 778, 779, 780, 781, 782, 783, 784, 785, 786] (by decide +kernel) (by decide +kernel)
set_option maxRecDepth 20000 in
theorem gL_law_X6_minutes : GoodIn wsL_law (wsV RL 48 RX6 yX6_minutes wsX6_minutes) := goodIn_app (goodIn_of _ (by decide +kernel)) ggL_law_X6_minutes
set_option maxRecDepth 20000 in
theorem ggL_law_X5_shake : GoodIn wsL_law wsX5_shake := goodIn_r _ [378, 21, 16, 90, 91, 2, 92, 379, 380, 381, 345, 346, 347, 20, 348, 349, 51, 350, 351, 271, 272, 273, 52, 352, 53, 353, 54, 354, 103, 355, 356, 143, 357, 382, 383, 384, 15, 385, 386, 41, 47, 45, 387, 388, 389, 390, 97, 391, 392, 393, 141, 142, 144, 43, 394, 138, 139, 140, 42, 40, 145, 146, 134, 135, 136, 98, 758, 759, 760, 761, 762, 763, 764, 765, 766, 787, 788, 789, 790, 791, 792, 793, 794, 795, 796, 797, 798, 799, 800, 801, 802, 803, 804] (by decide +kernel) (by decide +kernel)
set_option maxRecDepth 20000 in
theorem gL_law_X5_shake : GoodIn wsL_law (wsV RL 49 RX5 yX5_shake wsX5_shake) := goodIn_app (goodIn_of _ (by decide +kernel)) ggL_law_X5_shake
set_option maxRecDepth 20000 in
theorem ggL_law_X6_shake : GoodIn wsL_law wsX6_shake := goodIn_r _ [398, 113, 114, 5, 115, 109, 110, 111, 112, 399, 400, 401, 402, 367, 368, 369, 370, 120, 77, 73, 168, 169, 170, 171, 156, 157, 158, 159, 403, 404, 405, 406, 407, 74, 408, 409, 410, 411, 160, 161, 162, 163, 164, 165, 166, 167, 767, 768, 769, 770, 771, 772, 773, 774, 775, 776, 777, 778, 779, 780, 781, 782, 783, 784, 785, 786] (by decide +kernel) (by decide +kernel)
set_option maxRecDepth 20000 in
theorem gL_law_X6_shake : GoodIn wsL_law (wsV RL 52 RX6 yX6_shake wsX6_shake) := goodIn_app (goodIn_of _ (by decide +kernel)) ggL_law_X6_shake
set_option maxRecDepth 20000 in
theorem ggL_law_X5_lay : GoodIn wsL_law wsX5_lay := goodIn_r _ [415, 16, 21, 311, 128, 129, 130, 131, 2, 132, 89, 133, 134, 135, 15, 136, 98, 345, 346, 347, 20, 348, 349, 51, 350, 351, 271, 272, 273, 52, 352, 53, 353, 54, 354, 103, 355, 356, 143, 357, 758, 759, 760, 761, 762, 763, 764, 765, 766, 787, 788, 789, 790, 791, 792, 793, 794, 795, 796, 797, 798, 799, 800, 801, 802, 803, 804] (by decide +kernel) (by decide +kernel)
set_option maxRecDepth 20000 in
theorem gL_law_X5_lay : GoodIn wsL_law (wsV RL 53 RX5 yX5_lay wsX5_lay) := goodIn_app (goodIn_of _ (by decide +kernel)) ggL_law_X5_lay
set_option maxRecDepth 20000 in
theorem ggL_law_X6_lay : GoodIn wsL_law wsX6_lay := goodIn_r _ [419, 73, 152, 153, 154, 5, 155, 110, 111, 112, 164, 165, 166, 167, 156, 157, 158, 159, 367, 368, 369, 370, 120, 77, 168, 169, 170, 171, 767, 768, 769, 770, 771, 772, 773, 774, 775, 776, 777, 778, 779, 780, 781, 782, 783, 784, 785, 786] (by decide +kernel) (by decide +kernel)
set_option maxRecDepth 20000 in
theorem gL_law_X6_lay : GoodIn wsL_law (wsV RL 56 RX6 yX6_lay wsX6_lay) := goodIn_app (goodIn_of _ (by decide +kernel)) ggL_law_X6_lay
set_option maxRecDepth 20000 in
theorem ggL_law_X5_light : GoodIn wsL_law wsX5_light := goodIn_r _ [423, 16, 21, 311, 128, 129, 130, 131, 2, 132, 89, 133, 134, 135, 15, 136, 98, 345, 346, 347, 20, 348, 349, 51, 350, 351, 271, 272, 273, 52, 352, 53, 353, 54, 354, 103, 355, 356, 143, 357, 758, 759, 760, 761, 762, 763, 764, 765, 766, 787, 788, 789, 790, 791, 792, 793, 794, 795, 796, 797, 798, 799, 800, 801, 802, 803, 804] (by decide +kernel) (by decide +kernel)
set_option maxRecDepth 20000 in
theorem gL_law_X5_light : GoodIn wsL_law (wsV RL 57 RX5 yX5_light wsX5_light) := goodIn_app (goodIn_of _ (by decide +kernel)) ggL_law_X5_light
set_option maxRecDepth 20000 in
theorem ggL_law_X6_light : GoodIn wsL_law wsX6_light := goodIn_r _ [427, 73, 152, 153, 154, 5, 155, 110, 111, 112, 164, 165, 166, 167, 156, 157, 158, 159, 367, 368, 369, 370, 120, 77, 168, 169, 170, 171, 767, 768, 769, 770, 771, 772, 773, 774, 775, 776, 777, 778, 779, 780, 781, 782, 783, 784, 785, 786] (by decide +kernel) (by decide +kernel)
set_option maxRecDepth 20000 in
theorem gL_law_X6_light : GoodIn wsL_law (wsV RL 60 RX6 yX6_light wsX6_light) := goodIn_app (goodIn_of _ (by decide +kernel)) ggL_law_X6_light
set_option maxRecDepth 20000 in
theorem ggL_law_X5_drift : GoodIn wsL_law wsX5_drift := goodIn_r _ [431, 21, 16, 341, 342, 343, 2, 344, 310, 345, 346, 347, 20, 348, 349, 51, 350, 351, 271, 272, 273, 52, 352, 53, 353, 54, 354, 103, 355, 356, 143, 357, 358, 359, 360, 15, 361, 97, 40, 145, 43, 146, 134, 135, 136, 98, 432, 433, 434, 435, 46, 436, 437, 438, 439, 383, 384, 385, 386, 41, 47, 45, 387, 388, 389, 390, 391, 392, 393, 141, 142, 144, 394, 138, 139, 140, 42, 313, 314, 315, 316, 44, 758, 759, 760, 761, 762, 763, 764, 765, 766, 787, 788, 789, 790, 791, 792, 793, 794, 795, 796, 797, 798, 799, 800, 801, 802, 803, 804] (by decide +kernel) (by decide +kernel)
set_option maxRecDepth 20000 in
theorem gL_law_X5_drift : GoodIn wsL_law (wsV RL 61 RX5 yX5_drift wsX5_drift) := goodIn_app (goodIn_of _ (by decide +kernel)) ggL_law_X5_drift
set_option maxRecDepth 20000 in
theorem ggL_law_X6_drift : GoodIn wsL_law wsX6_drift := goodIn_r _ [443, 366, 73, 444, 445, 446, 447, 110, 111, 5, 112, 367, 368, 369, 370, 120, 77, 168, 169, 170, 171, 156, 157, 158, 159, 371, 372, 373, 374, 164, 165, 166, 167, 403, 404, 405, 406, 407, 74, 408, 409, 410, 411, 160, 161, 162, 163, 325, 326, 327, 328, 329, 330, 331, 332, 767, 768, 769, 770, 771, 772, 773, 774, 775, 776, 777, 778, 779, 780, 781, 782, 783, 784, 785, 786] (by decide +kernel) (by decide +kernel)
set_option maxRecDepth 20000 in
theorem gL_law_X6_drift : GoodIn wsL_law (wsV RL 64 RX6 yX6_drift wsX6_drift) := goodIn_app (goodIn_of _ (by decide +kernel)) ggL_law_X6_drift
set_option maxRecDepth 20000 in
theorem ggL_law_X5_undo : GoodIn wsL_law wsX5_undo := goodIn_r _ [451, 21, 312, 16, 452, 453, 454, 20, 455, 103, 350, 51, 349, 351, 271, 272, 273, 52, 352, 53, 353, 54, 354, 758, 759, 760, 761, 762, 763, 764, 765, 766, 799, 800, 801, 802, 803, 804, 787, 788, 789, 790, 791, 792, 793, 794, 795, 796, 797, 798] (by decide +kernel) (by decide +kernel)
set_option maxRecDepth 20000 in
theorem gL_law_X5_undo : GoodIn wsL_law (wsV RL 65 RX5 yX5_undo wsX5_undo) := goodIn_app (goodIn_of _ (by decide +kernel)) ggL_law_X5_undo
set_option maxRecDepth 20000 in
theorem ggL_law_X6_undo : GoodIn wsL_law wsX6_undo := goodIn_r _ [459, 120, 73, 77, 767, 768, 769, 770, 771, 772, 773, 774, 775, 776, 777, 778, 779, 780, 781, 782, 783, 784, 785, 786] (by decide +kernel) (by decide +kernel)
set_option maxRecDepth 20000 in
theorem gL_law_X6_undo : GoodIn wsL_law (wsV RL 68 RX6 yX6_undo wsX6_undo) := goodIn_app (goodIn_of _ (by decide +kernel)) ggL_law_X6_undo
set_option maxRecDepth 20000 in
theorem ggL_law_X5_seed : GoodIn wsL_law wsX5_seed := goodIn_r _ [463, 16, 210, 758, 759, 760, 761, 762, 763, 764, 765, 766, 787, 788, 789, 790, 791, 792, 793, 794, 795, 796, 797, 798] (by decide +kernel) (by decide +kernel)
set_option maxRecDepth 20000 in
theorem gL_law_X5_seed : GoodIn wsL_law (wsV RL 69 RX5 yX5_seed wsX5_seed) := goodIn_app (goodIn_of _ (by decide +kernel)) ggL_law_X5_seed
set_option maxRecDepth 20000 in
theorem ggL_law_X6_seed : GoodIn wsL_law wsX6_seed := goodIn_r _ [467, 73, 767, 768, 769, 770, 771, 772, 773, 774, 775, 776, 777, 778, 779, 780, 781, 782, 783, 784, 785, 786] (by decide +kernel) (by decide +kernel)
set_option maxRecDepth 20000 in
theorem gL_law_X6_seed : GoodIn wsL_law (wsV RL 72 RX6 yX6_seed wsX6_seed) := goodIn_app (goodIn_of _ (by decide +kernel)) ggL_law_X6_seed
set_option maxRecDepth 20000 in
theorem ggL_law_X5_ahead : GoodIn wsL_law wsX5_ahead := goodIn_r _ [471, 17, 128, 129, 130, 131, 2, 132, 16, 89, 472, 473, 474, 475, 476, 477, 478, 266, 267, 268, 15, 269, 40, 270, 271, 272, 273, 41, 42, 43, 97, 98, 44, 45, 145, 46, 358, 359, 360, 361, 146, 134, 135, 136, 758, 759, 760, 761, 762, 763, 764, 765, 766, 787, 788, 789, 790, 791, 792, 793, 794, 795, 796, 797, 798] (by decide +kernel) (by decide +kernel)
set_option maxRecDepth 20000 in
theorem gL_law_X5_ahead : GoodIn wsL_law (wsV RL 73 RX5 yX5_ahead wsX5_ahead) := goodIn_app (goodIn_of _ (by decide +kernel)) ggL_law_X5_ahead
set_option maxRecDepth 20000 in
theorem ggL_law_X6_ahead : GoodIn wsL_law wsX6_ahead := goodIn_r _ [482, 483, 152, 153, 154, 5, 155, 73, 110, 111, 112, 484, 485, 486, 487, 78, 488, 489, 490, 491, 371, 372, 373, 374, 164, 165, 166, 167, 156, 157, 158, 159, 168, 169, 170, 171, 492, 493, 494, 495, 767, 768, 769, 770, 771, 772, 773, 774, 775, 776, 777, 778, 779, 780, 781, 782, 783, 784, 785, 786] (by decide +kernel) (by decide +kernel)
set_option maxRecDepth 20000 in
theorem gL_law_X6_ahead : GoodIn wsL_law (wsV RL 76 RX6 yX6_ahead wsX6_ahead) := goodIn_app (goodIn_of _ (by decide +kernel)) ggL_law_X6_ahead
set_option maxRecDepth 20000 in
theorem ggL_law_X5_pay : GoodIn wsL_law wsX5_pay := goodIn_r _ [499, 17, 472, 473, 2, 474, 475, 476, 477, 478, 16, 266, 267, 268, 15, 269, 40, 270, 271, 272, 273, 41, 42, 43, 97, 98, 44, 45, 145, 46, 358, 359, 360, 361, 146, 134, 135, 136, 313, 314, 315, 316, 758, 759, 760, 761, 762, 763, 764, 765, 766, 787, 788, 789, 790, 791, 792, 793, 794, 795, 796, 797, 798] (by decide +kernel) (by decide +kernel)
set_option maxRecDepth 20000 in
theorem gL_law_X5_pay : GoodIn wsL_law (wsV RL 77 RX5 yX5_pay wsX5_pay) := goodIn_app (goodIn_of _ (by decide +kernel)) ggL_law_X5_pay
set_option maxRecDepth 20000 in
theorem ggL_law_X6_pay : GoodIn wsL_law wsX6_pay := goodIn_r _ [503, 483, 110, 111, 5, 112, 484, 485, 486, 487, 78, 73, 488, 489, 490, 491, 371, 372, 373, 374, 164, 165, 166, 167, 156, 157, 158, 159, 168, 169, 170, 171, 325, 326, 327, 328, 329, 330, 331, 332, 492, 493, 494, 495, 767, 768, 769, 770, 771, 772, 773, 774, 775, 776, 777, 778, 779, 780, 781, 782, 783, 784, 785, 786] (by decide +kernel) (by decide +kernel)
set_option maxRecDepth 20000 in
theorem gL_law_X6_pay : GoodIn wsL_law (wsV RL 80 RX6 yX6_pay wsX6_pay) := goodIn_app (goodIn_of _ (by decide +kernel)) ggL_law_X6_pay
set_option maxRecDepth 20000 in
theorem ggL_law_X5_falls : GoodIn wsL_law wsX5_falls := goodIn_r _ [507, 90, 91, 2, 92, 379, 380, 381, 508, 509, 510, 511, 512, 513, 514, 17, 16, 266, 267, 268, 15, 269, 40, 270, 271, 272, 273, 41, 42, 43, 97, 98, 44, 45, 145, 46, 382, 383, 384, 385, 386, 47, 387, 388, 389, 390, 391, 392, 143, 393, 141, 142, 144, 394, 138, 139, 140, 146, 134, 135, 136, 515, 516, 517, 518, 313, 314, 315, 316, 758, 759, 760, 761, 762, 763, 764, 765, 766, 787, 788, 789, 790, 791, 792, 793, 794, 795, 796, 797, 798] (by decide +kernel) (by decide +kernel)
set_option maxRecDepth 20000 in
theorem gL_law_X5_falls : GoodIn wsL_law (wsV RL 81 RX5 yX5_falls wsX5_falls) := goodIn_app (goodIn_of _ (by decide +kernel)) ggL_law_X5_falls
set_option maxRecDepth 20000 in
theorem ggL_law_X6_falls : GoodIn wsL_law wsX6_falls := goodIn_r _ [522, 523, 113, 114, 5, 115, 109, 110, 111, 112, 399, 400, 401, 402, 484, 485, 486, 487, 78, 73, 524, 525, 526, 527, 325, 326, 327, 328, 329, 330, 331, 332, 168, 169, 170, 171, 156, 157, 158, 159, 403, 404, 405, 406, 407, 74, 408, 409, 410, 411, 160, 161, 162, 163, 164, 165, 166, 167, 492, 493, 494, 495, 767, 768, 769, 770, 771, 772, 773, 774, 775, 776, 777, 778, 779, 780, 781, 782, 783, 784, 785, 786] (by decide +kernel) (by decide +kernel)
set_option maxRecDepth 20000 in
theorem gL_law_X6_falls : GoodIn wsL_law (wsV RL 84 RX6 yX6_falls wsX6_falls) := goodIn_app (goodIn_of _ (by decide +kernel)) ggL_law_X6_falls
set_option maxRecDepth 20000 in
theorem ggL_law_X5_worst : GoodIn wsL_law wsX5_worst := goodIn_r _ [531, 379, 380, 2, 381, 508, 509, 510, 511, 512, 513, 514, 17, 16, 266, 267, 268, 15, 269, 40, 270, 271, 272, 273, 41, 42, 43, 97, 98, 44, 45, 145, 46, 382, 383, 384, 385, 386, 47, 387, 388, 389, 390, 391, 392, 143, 393, 141, 142, 144, 394, 138, 139, 140, 146, 134, 135, 136, 515, 516, 517, 518, 313, 314, 315, 316, 758, 759, 760, 761, 762, 763, 764, 765, 766, 787, 788, 789, 790, 791, 792, 793, 794, 795, 796, 797, 798] (by decide +kernel) (by decide +kernel)
set_option maxRecDepth 20000 in
theorem gL_law_X5_worst : GoodIn wsL_law (wsV RL 85 RX5 yX5_worst wsX5_worst) := goodIn_app (goodIn_of _ (by decide +kernel)) ggL_law_X5_worst
set_option maxRecDepth 20000 in
theorem ggL_law_X6_worst : GoodIn wsL_law wsX6_worst := goodIn_r _ [535, 399, 400, 5, 401, 402, 110, 111, 112, 484, 485, 486, 487, 78, 73, 524, 525, 526, 527, 523, 325, 326, 327, 328, 329, 330, 331, 332, 168, 169, 170, 171, 156, 157, 158, 159, 403, 404, 405, 406, 407, 74, 408, 409, 410, 411, 160, 161, 162, 163, 164, 165, 166, 167, 492, 493, 494, 495, 767, 768, 769, 770, 771, 772, 773, 774, 775, 776, 777, 778, 779, 780, 781, 782, 783, 784, 785, 786] (by decide +kernel) (by decide +kernel)
set_option maxRecDepth 20000 in
theorem gL_law_X6_worst : GoodIn wsL_law (wsV RL 88 RX6 yX6_worst wsX6_worst) := goodIn_app (goodIn_of _ (by decide +kernel)) ggL_law_X6_worst
set_option maxRecDepth 20000 in
theorem ggL_law_X5_enough : GoodIn wsL_law wsX5_enough := goodIn_r _ [539, 90, 91, 2, 92, 511, 512, 513, 514, 17, 16, 266, 267, 268, 15, 269, 40, 270, 271, 272, 273, 41, 42, 43, 97, 98, 44, 45, 145, 46, 382, 383, 384, 385, 386, 47, 387, 388, 389, 390, 391, 392, 143, 393, 141, 142, 144, 394, 138, 139, 140, 146, 134, 135, 136, 540, 541, 542, 543, 544, 545, 546, 758, 759, 760, 761, 762, 763, 764, 765, 766, 787, 788, 789, 790, 791, 792, 793, 794, 795, 796, 797, 798] (by decide +kernel) (by decide +kernel)
set_option maxRecDepth 20000 in
theorem gL_law_X5_enough : GoodIn wsL_law (wsV RL 89 RX5 yX5_enough wsX5_enough) := goodIn_app (goodIn_of _ (by decide +kernel)) ggL_law_X5_enough
set_option maxRecDepth 20000 in
theorem ggL_law_X6_enough : GoodIn wsL_law wsX6_enough := goodIn_r _ [550, 551, 523, 113, 114, 5, 115, 109, 110, 111, 112, 484, 485, 486, 487, 78, 73, 524, 525, 526, 527, 325, 326, 327, 328, 329, 330, 331, 332, 168, 169, 170, 171, 156, 157, 158, 159, 403, 404, 405, 406, 407, 74, 408, 409, 410, 411, 160, 161, 162, 163, 164, 165, 166, 167, 492, 493, 494, 495, 552, 553, 554, 767, 768, 769, 770, 771, 772, 773, 774, 775, 776, 777, 778, 779, 780, 781, 782, 783, 784, 785, 786] (by decide +kernel) (by decide +kernel)
set_option maxRecDepth 20000 in
theorem gL_law_X6_enough : GoodIn wsL_law (wsV RL 92 RX6 yX6_enough wsX6_enough) := goodIn_app (goodIn_of _ (by decide +kernel)) ggL_law_X6_enough
set_option maxRecDepth 20000 in
theorem ggL_law_X5_seats : GoodIn wsL_law wsX5_seats := goodIn_r _ [558, 29, 559, 90, 91, 2, 92, 379, 380, 381, 129, 130, 131, 132, 16, 89, 560, 561, 562, 563, 564, 565, 566, 28, 567, 568, 356, 143, 357, 569, 62, 570, 571, 572, 573, 17, 126, 574, 266, 267, 268, 15, 269, 40, 270, 271, 272, 273, 41, 42, 43, 97, 98, 44, 45, 145, 46, 382, 383, 384, 385, 386, 47, 387, 388, 389, 390, 391, 392, 393, 141, 142, 144, 394, 138, 139, 140, 146, 134, 135, 136, 515, 516, 517, 518, 313, 314, 315, 316, 575, 576, 577, 578, 63, 579, 580, 581, 582, 583, 584, 585, 586, 587, 758, 759, 760, 761, 762, 763, 764, 765, 766, 809, 810, 811, 787, 788, 789, 790, 791, 792, 793, 794, 795, 796, 797, 798] (by decide +kernel) (by decide +kernel)
set_option maxRecDepth 20000 in
theorem gL_law_X5_seats : GoodIn wsL_law (wsV RL 93 RX5 yX5_seats wsX5_seats) := goodIn_app (goodIn_of _ (by decide +kernel)) ggL_law_X5_seats
set_option maxRecDepth 20000 in
theorem ggL_law_X6_seats : GoodIn wsL_law wsX6_seats := goodIn_r _ [591, 73, 78, 79, 113, 114, 5, 115, 109, 110, 111, 112, 399, 400, 401, 402, 152, 153, 154, 155, 484, 485, 486, 487, 592, 593, 594, 595, 596, 597, 598, 524, 525, 526, 527, 523, 325, 326, 327, 328, 329, 330, 331, 332, 168, 169, 170, 171, 156, 157, 158, 159, 403, 404, 405, 406, 407, 74, 408, 409, 410, 411, 160, 161, 162, 163, 164, 165, 166, 167, 492, 493, 494, 495, 767, 768, 769, 770, 771, 772, 773, 774, 775, 776, 777, 778, 779, 780, 781, 782, 783, 784, 785, 786] (by decide +kernel) (by decide +kernel)
set_option maxRecDepth 20000 in
theorem gL_law_X6_seats : GoodIn wsL_law (wsV RL 96 RX6 yX6_seats wsX6_seats) := goodIn_app (goodIn_of _ (by decide +kernel)) ggL_law_X6_seats
set_option maxRecDepth 20000 in
theorem ggL_law_X5_stop : GoodIn wsL_law wsX5_stop := goodIn_r _ [602, 17, 16, 128, 129, 130, 131, 2, 132, 89, 90, 91, 92, 379, 380, 381, 508, 509, 510, 266, 267, 268, 15, 269, 40, 270, 271, 272, 273, 41, 42, 43, 97, 98, 44, 45, 145, 46, 358, 359, 360, 361, 146, 134, 135, 136, 382, 383, 384, 385, 386, 47, 387, 388, 389, 390, 391, 392, 143, 393, 141, 142, 144, 394, 138, 139, 140, 758, 759, 760, 761, 762, 763, 764, 765, 766, 787, 788, 789, 790, 791, 792, 793, 794, 795, 796, 797, 798] (by decide +kernel) (by decide +kernel)
set_option maxRecDepth 20000 in
theorem gL_law_X5_stop : GoodIn wsL_law (wsV RL 97 RX5 yX5_stop wsX5_stop) := goodIn_app (goodIn_of _ (by decide +kernel)) ggL_law_X5_stop
set_option maxRecDepth 20000 in
theorem ggL_law_X6_stop : GoodIn wsL_law wsX6_stop := goodIn_r _ [606, 366, 152, 153, 154, 5, 155, 73, 110, 111, 112, 113, 114, 115, 109, 399, 400, 401, 402, 168, 169, 170, 171, 156, 157, 158, 159, 484, 485, 486, 487, 78, 371, 372, 373, 374, 164, 165, 166, 167, 403, 404, 405, 406, 407, 74, 408, 409, 410, 411, 160, 161, 162, 163, 492, 493, 494, 495, 767, 768, 769, 770, 771, 772, 773, 774, 775, 776, 777, 778, 779, 780, 781, 782, 783, 784, 785, 786] (by decide +kernel) (by decide +kernel)
set_option maxRecDepth 20000 in
theorem gL_law_X6_stop : GoodIn wsL_law (wsV RL 101 RX6 yX6_stop wsX6_stop) := goodIn_app (goodIn_of _ (by decide +kernel)) ggL_law_X6_stop
set_option maxRecDepth 20000 in
theorem ggL_law_X5_luck : GoodIn wsL_law wsX5_luck := goodIn_r _ [610, 16, 89, 611, 142, 143, 144, 129, 130, 131, 2, 132, 508, 509, 510, 612, 613, 614, 615, 616, 617, 618, 619, 17, 126, 266, 267, 268, 15, 269, 40, 270, 271, 272, 273, 41, 42, 43, 97, 98, 44, 45, 145, 46, 382, 383, 384, 385, 386, 47, 387, 388, 389, 390, 391, 392, 393, 141, 394, 138, 139, 140, 146, 134, 135, 136, 620, 621, 622, 758, 759, 760, 761, 762, 763, 764, 765, 766, 787, 788, 789, 790, 791, 792, 793, 794, 795, 796, 797, 798] (by decide +kernel) (by decide +kernel)
set_option maxRecDepth 20000 in
theorem gL_law_X5_luck : GoodIn wsL_law (wsV RL 102 RX5 yX5_luck wsX5_luck) := goodIn_app (goodIn_of _ (by decide +kernel)) ggL_law_X5_luck
set_option maxRecDepth 20000 in
theorem ggL_law_X6_luck : GoodIn wsL_law wsX6_luck := goodIn_r _ [626, 627, 73, 152, 153, 154, 5, 155, 110, 111, 112, 484, 485, 486, 487, 78, 156, 157, 158, 159, 403, 404, 405, 406, 407, 74, 408, 409, 410, 411, 168, 169, 170, 171, 160, 161, 162, 163, 164, 165, 166, 167, 492, 493, 494, 495, 767, 768, 769, 770, 771, 772, 773, 774, 775, 776, 777, 778, 779, 780, 781, 782, 783, 784, 785, 786] (by decide +kernel) (by decide +kernel)
set_option maxRecDepth 20000 in
theorem gL_law_X6_luck : GoodIn wsL_law (wsV RL 105 RX6 yX6_luck wsX6_luck) := goodIn_app (goodIn_of _ (by decide +kernel)) ggL_law_X6_luck
set_option maxRecDepth 20000 in
theorem ggL_law_X5_image : GoodIn wsL_law wsX5_image := goodIn_r _ [631, 34, 16, 35, 21, 632, 266, 267, 268, 15, 269, 40, 270, 271, 272, 273, 41, 42, 43, 97, 98, 44, 45, 145, 46, 633, 634, 635, 20, 636, 51, 351, 52, 53, 54, 350, 103, 758, 759, 760, 761, 762, 763, 764, 765, 766, 787, 788, 789, 790, 791, 792, 793, 794, 795, 796, 797, 798, 799, 800, 801, 802, 803, 804] (by decide +kernel) (by decide +kernel)
set_option maxRecDepth 20000 in
theorem gL_law_X5_image : GoodIn wsL_law (wsV RL 106 RX5 yX5_image wsX5_image) := goodIn_app (goodIn_of _ (by decide +kernel)) ggL_law_X5_image
set_option maxRecDepth 20000 in
theorem ggL_law_X6_image : GoodIn wsL_law wsX6_image := goodIn_r _ [640, 80, 73, 77, 120, 641, 642, 767, 768, 769, 770, 771, 772, 773, 774, 775, 776, 777, 778, 779, 780, 781, 782, 783, 784, 785, 786] (by decide +kernel) (by decide +kernel)
set_option maxRecDepth 20000 in
theorem gL_law_X6_image : GoodIn wsL_law (wsV RL 109 RX6 yX6_image wsX6_image) := goodIn_app (goodIn_of _ (by decide +kernel)) ggL_law_X6_image
set_option maxRecDepth 20000 in
theorem ggL_law_X5_restore : GoodIn wsL_law wsX5_restore := goodIn_r _ [646, 632, 16, 34, 21, 35, 266, 267, 268, 15, 269, 40, 270, 271, 272, 273, 41, 42, 43, 97, 98, 44, 45, 145, 46, 633, 634, 635, 20, 636, 51, 351, 52, 53, 54, 350, 103, 758, 759, 760, 761, 762, 763, 764, 765, 766, 787, 788, 789, 790, 791, 792, 793, 794, 795, 796, 797, 798, 799, 800, 801, 802, 803, 804] (by decide +kernel) (by decide +kernel)
set_option maxRecDepth 20000 in
theorem gL_law_X5_restore : GoodIn wsL_law (wsV RL 110 RX5 yX5_restore wsX5_restore) := goodIn_app (goodIn_of _ (by decide +kernel)) ggL_law_X5_restore
set_option maxRecDepth 20000 in
theorem ggL_law_X6_restore : GoodIn wsL_law wsX6_restore := goodIn_r _ [650, 642, 73, 80, 77, 641, 120, 767, 768, 769, 770, 771, 772, 773, 774, 775, 776, 777, 778, 779, 780, 781, 782, 783, 784, 785, 786] (by decide +kernel) (by decide +kernel)
set_option maxRecDepth 20000 in
theorem gL_law_X6_restore : GoodIn wsL_law (wsV RL 113 RX6 yX6_restore wsX6_restore) := goodIn_app (goodIn_of _ (by decide +kernel)) ggL_law_X6_restore
set_option maxRecDepth 20000 in
theorem ggL_law_X5_whence : GoodIn wsL_law wsX5_whence := goodIn_r _ [654, 31, 655, 656, 2, 657, 658, 659, 660, 508, 509, 510, 661, 662, 663, 33, 664, 665, 666, 667, 668, 669, 670, 671, 672, 673, 674, 675, 676, 16, 89, 677, 678, 679, 680, 511, 512, 513, 514, 17, 266, 267, 268, 15, 269, 40, 270, 271, 272, 273, 41, 42, 43, 97, 98, 44, 45, 145, 46, 382, 383, 384, 385, 386, 47, 387, 388, 389, 390, 391, 392, 143, 393, 141, 142, 144, 394, 138, 139, 140, 146, 134, 135, 136, 681, 682, 683, 684, 758, 759, 760, 761, 762, 763, 764, 765, 766, 812, 813, 814, 815, 787, 788, 789, 790, 791, 792, 793, 794, 795, 796, 797, 798] (by decide +kernel) (by decide +kernel)
set_option maxRecDepth 20000 in
theorem gL_law_X5_whence : GoodIn wsL_law (wsV RL 114 RX5 yX5_whence wsX5_whence) := goodIn_app (goodIn_of _ (by decide +kernel)) ggL_law_X5_whence
set_option maxRecDepth 20000 in
theorem ggL_law_X6_whence : GoodIn wsL_law wsX6_whence := goodIn_r _ [688, 551, 83, 73, 523, 689, 690, 5, 691, 692, 110, 111, 112, 693, 694, 695, 696, 697, 698, 699, 81, 82, 484, 485, 486, 487, 78, 524, 525, 526, 527, 325, 326, 327, 328, 329, 330, 331, 332, 168, 169, 170, 171, 156, 157, 158, 159, 403, 404, 405, 406, 407, 74, 408, 409, 410, 411, 160, 161, 162, 163, 164, 165, 166, 167, 492, 493, 494, 495, 767, 768, 769, 770, 771, 772, 773, 774, 775, 776, 777, 778, 779, 780, 781, 782, 783, 784, 785, 786] (by decide +kernel) (by decide +kernel)
set_option maxRecDepth 20000 in
theorem gL_law_X6_whence : GoodIn wsL_law (wsV RL 117 RX6 yX6_whence wsX6_whence) := goodIn_app (goodIn_of _ (by decide +kernel)) ggL_law_X6_whence
set_option maxRecDepth 20000 in
theorem ggL_law_X5_film : GoodIn wsL_law wsX5_film := goodIn_r _ [703, 16, 89, 31, 128, 655, 656, 2, 657, 658, 659, 660, 661, 662, 663, 33, 664, 665, 666, 667, 668, 669, 670, 671, 704, 705, 706, 707, 68, 708, 709, 710, 711, 758, 759, 760, 761, 762, 763, 764, 765, 766, 787, 788, 789, 790, 791, 792, 793, 794, 795, 796, 797, 798, 812, 813, 814, 815] (by decide +kernel) (by decide +kernel)
set_option maxRecDepth 20000 in
theorem gL_law_X5_film : GoodIn wsL_law (wsV RL 118 RX5 yX5_film wsX5_film) := goodIn_app (goodIn_of _ (by decide +kernel)) ggL_law_X5_film
set_option maxRecDepth 20000 in
theorem ggL_law_X6_film : GoodIn wsL_law wsX6_film := goodIn_r _ [715, 73, 83, 110, 111, 5, 112, 689, 690, 691, 692, 693, 694, 695, 696, 697, 698, 699, 81, 82, 168, 169, 170, 171, 156, 157, 158, 159, 767, 768, 769, 770, 771, 772, 773, 774, 775, 776, 777, 778, 779, 780, 781, 782, 783, 784, 785, 786] (by decide +kernel) (by decide +kernel)
set_option maxRecDepth 20000 in
theorem gL_law_X6_film : GoodIn wsL_law (wsV RL 122 RX6 yX6_film wsX6_film) := goodIn_app (goodIn_of _ (by decide +kernel)) ggL_law_X6_film
set_option maxRecDepth 20000 in
theorem ggL_law_X5_sheet : GoodIn wsL_law wsX5_sheet := goodIn_r _ [719, 31, 655, 656, 2, 657, 658, 659, 660, 720, 721, 722, 33, 723, 665, 666, 724, 356, 143, 357, 671, 68, 758, 759, 760, 761, 762, 763, 764, 765, 766, 812, 813, 814, 815] (by decide +kernel) (by decide +kernel)
set_option maxRecDepth 20000 in
theorem gL_law_X5_sheet : GoodIn wsL_law (wsV RL 123 RX5 yX5_sheet wsX5_sheet) := goodIn_app (goodIn_of _ (by decide +kernel)) ggL_law_X5_sheet
set_option maxRecDepth 20000 in
theorem ggL_law_X6_sheet : GoodIn wsL_law wsX6_sheet := goodIn_r _ [728, 81, 82, 83, 689, 690, 5, 691, 692, 110, 111, 112, 693, 694, 695, 767, 768, 769, 770, 771, 772, 773, 774, 775, 776, 777, 778, 779, 780, 781, 782, 783, 784, 785, 786] (by decide +kernel) (by decide +kernel)
set_option maxRecDepth 20000 in
theorem gL_law_X6_sheet : GoodIn wsL_law (wsV RL 126 RX6 yX6_sheet wsX6_sheet) := goodIn_app (goodIn_of _ (by decide +kernel)) ggL_law_X6_sheet
set_option maxRecDepth 20000 in
theorem ggL_law_X5_drop : GoodIn wsL_law wsX5_drop := goodIn_r _ [732, 31, 733, 734, 655, 656, 2, 657, 758, 759, 760, 761, 762, 763, 764, 765, 766, 812, 813, 814, 815] (by decide +kernel) (by decide +kernel)
set_option maxRecDepth 20000 in
theorem gL_law_X5_drop : GoodIn wsL_law (wsV RL 127 RX5 yX5_drop wsX5_drop) := goodIn_app (goodIn_of _ (by decide +kernel)) ggL_law_X5_drop
set_option maxRecDepth 20000 in
theorem ggL_law_X6_drop : GoodIn wsL_law wsX6_drop := goodIn_r _ [738, 81, 82, 689, 690, 5, 691, 692, 110, 111, 112, 767, 768, 769, 770, 771, 772, 773, 774, 775, 776, 777, 778, 779, 780, 781, 782, 783, 784, 785, 786] (by decide +kernel) (by decide +kernel)
set_option maxRecDepth 20000 in
theorem gL_law_X6_drop : GoodIn wsL_law (wsV RL 130 RX6 yX6_drop wsX6_drop) := goodIn_app (goodIn_of _ (by decide +kernel)) ggL_law_X6_drop
set_option maxRecDepth 20000 in
theorem ggL_law_X5_item : GoodIn wsL_law wsX5_item := goodIn_r _ [742, 31, 655, 656, 2, 657, 658, 659, 660, 661, 662, 663, 33, 664, 665, 666, 667, 668, 669, 670, 671, 704, 705, 706, 707, 68, 708, 709, 710, 711, 758, 759, 760, 761, 762, 763, 764, 765, 766, 812, 813, 814, 815] (by decide +kernel) (by decide +kernel)
set_option maxRecDepth 20000 in
theorem gL_law_X5_item : GoodIn wsL_law (wsV RL 133 RX5 yX5_item wsX5_item) := goodIn_app (goodIn_of _ (by decide +kernel)) ggL_law_X5_item
set_option maxRecDepth 20000 in
theorem ggL_law_X6_item : GoodIn wsL_law wsX6_item := goodIn_r _ [746, 83, 689, 690, 5, 691, 692, 110, 111, 112, 693, 694, 695, 696, 697, 698, 699, 81, 82, 767, 768, 769, 770, 771, 772, 773, 774, 775, 776, 777, 778, 779, 780, 781, 782, 783, 784, 785, 786] (by decide +kernel) (by decide +kernel)
set_option maxRecDepth 20000 in
theorem gL_law_X6_item : GoodIn wsL_law (wsV RL 137 RX6 yX6_item wsX6_item) := goodIn_app (goodIn_of _ (by decide +kernel)) ggL_law_X6_item
set_option maxRecDepth 20000 in
theorem ggL_law_X5_copy : GoodIn wsL_law wsX5_copy := goodIn_r _ [750, 31, 733, 751, 676, 752, 271, 272, 273, 655, 656, 2, 657, 753, 668, 669, 33, 670, 671, 758, 759, 760, 761, 762, 763, 764, 765, 766, 812, 813, 814, 815] (by decide +kernel) (by decide +kernel)
set_option maxRecDepth 20000 in
theorem gL_law_X5_copy : GoodIn wsL_law (wsV RL 138 RX5 yX5_copy wsX5_copy) := goodIn_app (goodIn_of _ (by decide +kernel)) ggL_law_X5_copy
set_option maxRecDepth 20000 in
theorem ggL_law_X6_copy : GoodIn wsL_law wsX6_copy := goodIn_r _ [757, 81, 84, 83, 689, 690, 5, 691, 692, 110, 111, 112, 696, 697, 698, 699, 82, 767, 768, 769, 770, 771, 772, 773, 774, 775, 776, 777, 778, 779, 780, 781, 782, 783, 784, 785, 786] (by decide +kernel) (by decide +kernel)
set_option maxRecDepth 20000 in
theorem gL_law_X6_copy : GoodIn wsL_law (wsV RL 141 RX6 yX6_copy wsX6_copy) := goodIn_app (goodIn_of _ (by decide +kernel)) ggL_law_X6_copy

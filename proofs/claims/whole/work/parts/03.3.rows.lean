theorem dX6_those_0 : decode cX6_those 0 = .ok (.iconst 0, 1) := by decide +kernel
theorem dX6_those_1 : decode cX6_those 1 = .ok (.istore_n 2, 1) := by decide +kernel
theorem dX6_those_2 : decode cX6_those 2 = .ok (.iconst 0, 1) := by decide +kernel
theorem dX6_those_3 : decode cX6_those 3 = .ok (.istore_n 3, 1) := by decide +kernel
theorem dX6_those_4 : decode cX6_those 4 = .ok (.iload_n 3, 1) := by decide +kernel
theorem dX6_those_5 : decode cX6_those 5 = .ok (.aload_n 0, 1) := by decide +kernel
theorem dX6_those_6 : decode cX6_those 6 = .ok (.getfield 7, 3) := by decide +kernel
theorem dX6_those_9 : decode cX6_those 9 = .ok (.iconst 0, 1) := by decide +kernel
theorem dX6_those_10 : decode cX6_those 10 = .ok (.iaload, 1) := by decide +kernel
theorem dX6_those_11 : decode cX6_those 11 = .ok (.if_icmp .ge 42, 3) := by decide +kernel
theorem dX6_those_14 : decode cX6_those 14 = .ok (.iload_n 2, 1) := by decide +kernel
theorem dX6_those_15 : decode cX6_those 15 = .ok (.iload_n 1, 1) := by decide +kernel
theorem dX6_those_16 : decode cX6_those 16 = .ok (.ifCond .eq 14, 3) := by decide +kernel
theorem dX6_those_19 : decode cX6_those 19 = .ok (.aload_n 0, 1) := by decide +kernel
theorem dX6_those_20 : decode cX6_those 20 = .ok (.iload_n 3, 1) := by decide +kernel
theorem dX6_those_21 : decode cX6_those 21 = .ok (.invokevirtual 59, 3) := by decide +kernel
theorem dX6_those_24 : decode cX6_those 24 = .ok (.ifCond .eq 20, 3) := by decide +kernel
theorem dX6_those_27 : decode cX6_those 27 = .ok (.goto 11, 3) := by decide +kernel
theorem dX6_those_30 : decode cX6_those 30 = .ok (.aload_n 0, 1) := by decide +kernel
theorem dX6_those_31 : decode cX6_those 31 = .ok (.iload_n 3, 1) := by decide +kernel
theorem dX6_those_32 : decode cX6_those 32 = .ok (.invokevirtual 63, 3) := by decide +kernel
theorem dX6_those_35 : decode cX6_those 35 = .ok (.ifCond .le 9, 3) := by decide +kernel
theorem dX6_those_38 : decode cX6_those 38 = .ok (.iconst 1, 1) := by decide +kernel
theorem dX6_those_39 : decode cX6_those 39 = .ok (.iload_n 3, 1) := by decide +kernel
theorem dX6_those_40 : decode cX6_those 40 = .ok (.ishl, 1) := by decide +kernel
theorem dX6_those_41 : decode cX6_those 41 = .ok (.goto 4, 3) := by decide +kernel
theorem dX6_those_44 : decode cX6_those 44 = .ok (.iconst 0, 1) := by decide +kernel
theorem dX6_those_45 : decode cX6_those 45 = .ok (.ior, 1) := by decide +kernel
theorem dX6_those_46 : decode cX6_those 46 = .ok (.istore_n 2, 1) := by decide +kernel
theorem dX6_those_47 : decode cX6_those 47 = .ok (.iinc 3 1, 3) := by decide +kernel
theorem dX6_those_50 : decode cX6_those 50 = .ok (.goto (-46), 3) := by decide +kernel
theorem dX6_those_53 : decode cX6_those 53 = .ok (.iload_n 2, 1) := by decide +kernel
theorem dX6_those_54 : decode cX6_those 54 = .ok (.ireturn, 1) := by decide +kernel
set_option maxRecDepth 20000 in
theorem ggX6_count_X6_payOfAll : GoodIn wsX6_count wsX6_payOfAll := goodIn_r _ [7, 1, 8, 9, 10, 6, 11, 12, 13, 14, 15, 16, 17, 18, 19, 28, 29, 30, 31, 32, 33, 34, 35, 36, 37, 38, 39, 40, 41, 42, 43, 44, 45, 46, 47] (by decide +kernel) (by decide +kernel)
set_option maxRecDepth 20000 in
theorem gX6_count_X6_payOfAll : GoodIn wsX6_count (wsV RX6 98 RX6 yX6_payOfAll wsX6_payOfAll) := goodIn_app (goodIn_of _ (by decide +kernel)) ggX6_count_X6_payOfAll
set_option maxRecDepth 20000 in
theorem ggX6_count_X6_those : GoodIn wsX6_count wsX6_those := goodIn_r _ [23, 1, 24, 25, 26, 6, 27, 16, 17, 18, 19, 12, 13, 14, 15, 28, 29, 30, 31, 32, 33, 34, 35, 36, 37, 38, 39, 40, 41, 42, 43, 44, 45, 46, 47] (by decide +kernel) (by decide +kernel)
set_option maxRecDepth 20000 in
theorem gX6_count_X6_those : GoodIn wsX6_count (wsV RX6 101 RX6 yX6_those wsX6_those) := goodIn_app (goodIn_of _ (by decide +kernel)) ggX6_count_X6_those
theorem dX6_count_0 : decode cX6_count 0 = .ok (.iload_n 1, 1) := by decide +kernel
theorem dX6_count_1 : decode cX6_count 1 = .ok (.tableswitch 79 0 7 #[47, 47, 47, 47, 54, 59, 59, 74], 47) := by decide +kernel
theorem dX6_count_48 : decode cX6_count 48 = .ok (.aload_n 0, 1) := by decide +kernel
theorem dX6_count_49 : decode cX6_count 49 = .ok (.getfield 7, 3) := by decide +kernel
theorem dX6_count_52 : decode cX6_count 52 = .ok (.iload_n 1, 1) := by decide +kernel
theorem dX6_count_53 : decode cX6_count 53 = .ok (.iaload, 1) := by decide +kernel
theorem dX6_count_54 : decode cX6_count 54 = .ok (.ireturn, 1) := by decide +kernel
theorem dX6_count_55 : decode cX6_count 55 = .ok (.aload_n 0, 1) := by decide +kernel
theorem dX6_count_56 : decode cX6_count 56 = .ok (.invokevirtual 98, 3) := by decide +kernel
theorem dX6_count_59 : decode cX6_count 59 = .ok (.ireturn, 1) := by decide +kernel
theorem dX6_count_60 : decode cX6_count 60 = .ok (.aload_n 0, 1) := by decide +kernel
theorem dX6_count_61 : decode cX6_count 61 = .ok (.iload_n 1, 1) := by decide +kernel
theorem dX6_count_62 : decode cX6_count 62 = .ok (.iconst 5, 1) := by decide +kernel
theorem dX6_count_63 : decode cX6_count 63 = .ok (.if_icmp .ne 7, 3) := by decide +kernel
theorem dX6_count_66 : decode cX6_count 66 = .ok (.iconst 1, 1) := by decide +kernel
theorem dX6_count_67 : decode cX6_count 67 = .ok (.goto 4, 3) := by decide +kernel
theorem dX6_count_70 : decode cX6_count 70 = .ok (.iconst 0, 1) := by decide +kernel
theorem dX6_count_71 : decode cX6_count 71 = .ok (.invokevirtual 101, 3) := by decide +kernel
theorem dX6_count_74 : decode cX6_count 74 = .ok (.ireturn, 1) := by decide +kernel
theorem dX6_count_75 : decode cX6_count 75 = .ok (.aload_n 0, 1) := by decide +kernel
theorem dX6_count_76 : decode cX6_count 76 = .ok (.getfield 81, 3) := by decide +kernel
theorem dX6_count_79 : decode cX6_count 79 = .ok (.ireturn, 1) := by decide +kernel
theorem dX6_count_80 : decode cX6_count 80 = .ok (.iconst (-1), 1) := by decide +kernel
theorem dX6_count_81 : decode cX6_count 81 = .ok (.ireturn, 1) := by decide +kernel
set_option maxRecDepth 20000 in
theorem ggX6_type_X6_in : GoodIn wsX6_type wsX6_in := goodIn_r _ [8] (by decide +kernel) (by decide +kernel)
set_option maxRecDepth 20000 in
theorem gX6_type_X6_in : GoodIn wsX6_type (va_wsS RX6 47 yX6_in wsX6_in) := goodIn_app (goodIn_of _ (by decide +kernel)) ggX6_type_X6_in
theorem dX6_type_0 : decode cX6_type 0 = .ok (.iload_n 1, 1) := by decide +kernel
theorem dX6_type_1 : decode cX6_type 1 = .ok (.i2l, 1) := by decide +kernel
theorem dX6_type_2 : decode cX6_type 2 = .ok (.ldc2_w 105, 3) := by decide +kernel
theorem dX6_type_5 : decode cX6_type 5 = .ok (.ldc2_w 107, 3) := by decide +kernel
theorem dX6_type_8 : decode cX6_type 8 = .ok (.invokestatic 47, 3) := by decide +kernel
theorem dX6_type_11 : decode cX6_type 11 = .ok (.ifCond .ne 5, 3) := by decide +kernel
theorem dX6_type_14 : decode cX6_type 14 = .ok (.iconst (-1), 1) := by decide +kernel
theorem dX6_type_15 : decode cX6_type 15 = .ok (.ireturn, 1) := by decide +kernel
theorem dX6_type_16 : decode cX6_type 16 = .ok (.aload_n 0, 1) := by decide +kernel
theorem dX6_type_17 : decode cX6_type 17 = .ok (.getfield 109, 3) := by decide +kernel
theorem dX6_type_20 : decode cX6_type 20 = .ok (.bipush 70, 2) := by decide +kernel
theorem dX6_type_22 : decode cX6_type 22 = .ok (.if_icmp .ne 6, 3) := by decide +kernel
theorem dX6_type_25 : decode cX6_type 25 = .ok (.bipush (-3), 2) := by decide +kernel
theorem dX6_type_27 : decode cX6_type 27 = .ok (.ireturn, 1) := by decide +kernel
theorem dX6_type_28 : decode cX6_type 28 = .ok (.aload_n 0, 1) := by decide +kernel
theorem dX6_type_29 : decode cX6_type 29 = .ok (.getfield 16, 3) := by decide +kernel
theorem dX6_type_32 : decode cX6_type 32 = .ok (.aload_n 0, 1) := by decide +kernel
theorem dX6_type_33 : decode cX6_type 33 = .ok (.getfield 109, 3) := by decide +kernel
theorem dX6_type_36 : decode cX6_type 36 = .ok (.iload_n 1, 1) := by decide +kernel
theorem dX6_type_37 : decode cX6_type 37 = .ok (.iastore, 1) := by decide +kernel
theorem dX6_type_38 : decode cX6_type 38 = .ok (.aload_n 0, 1) := by decide +kernel
theorem dX6_type_39 : decode cX6_type 39 = .ok (.dup, 1) := by decide +kernel
theorem dX6_type_40 : decode cX6_type 40 = .ok (.getfield 109, 3) := by decide +kernel
theorem dX6_type_43 : decode cX6_type 43 = .ok (.iconst 1, 1) := by decide +kernel
theorem dX6_type_44 : decode cX6_type 44 = .ok (.iadd, 1) := by decide +kernel
theorem dX6_type_45 : decode cX6_type 45 = .ok (.putfield 109, 3) := by decide +kernel
theorem dX6_type_48 : decode cX6_type 48 = .ok (.aload_n 0, 1) := by decide +kernel
theorem dX6_type_49 : decode cX6_type 49 = .ok (.getfield 109, 3) := by decide +kernel
theorem dX6_type_52 : decode cX6_type 52 = .ok (.ireturn, 1) := by decide +kernel
theorem dX6_here_0 : decode cX6_here 0 = .ok (.aload_n 0, 1) := by decide +kernel
theorem dX6_here_1 : decode cX6_here 1 = .ok (.getfield 112, 3) := by decide +kernel
theorem dX6_here_4 : decode cX6_here 4 = .ok (.aload_n 0, 1) := by decide +kernel
theorem dX6_here_5 : decode cX6_here 5 = .ok (.getfield 109, 3) := by decide +kernel
theorem dX6_here_8 : decode cX6_here 8 = .ok (.if_icmp .ge 30, 3) := by decide +kernel
theorem dX6_here_11 : decode cX6_here 11 = .ok (.aload_n 0, 1) := by decide +kernel
theorem dX6_here_12 : decode cX6_here 12 = .ok (.getfield 16, 3) := by decide +kernel
theorem dX6_here_15 : decode cX6_here 15 = .ok (.aload_n 0, 1) := by decide +kernel
theorem dX6_here_16 : decode cX6_here 16 = .ok (.getfield 112, 3) := by decide +kernel
theorem dX6_here_19 : decode cX6_here 19 = .ok (.iaload, 1) := by decide +kernel
theorem dX6_here_20 : decode cX6_here 20 = .ok (.bipush 32, 2) := by decide +kernel
theorem dX6_here_22 : decode cX6_here 22 = .ok (.if_icmp .ne 16, 3) := by decide +kernel
theorem dX6_here_25 : decode cX6_here 25 = .ok (.aload_n 0, 1) := by decide +kernel
theorem dX6_here_26 : decode cX6_here 26 = .ok (.dup, 1) := by decide +kernel
theorem dX6_here_27 : decode cX6_here 27 = .ok (.getfield 112, 3) := by decide +kernel
theorem dX6_here_30 : decode cX6_here 30 = .ok (.iconst 1, 1) := by decide +kernel
theorem dX6_here_31 : decode cX6_here 31 = .ok (.iadd, 1) := by decide +kernel
theorem dX6_here_32 : decode cX6_here 32 = .ok (.putfield 112, 3) := by decide +kernel
theorem dX6_here_35 : decode cX6_here 35 = .ok (.goto (-35), 3) := by decide +kernel
theorem dX6_here_38 : decode cX6_here 38 = .ok (.aload_n 0, 1) := by decide +kernel
theorem dX6_here_39 : decode cX6_here 39 = .ok (.getfield 112, 3) := by decide +kernel
theorem dX6_here_42 : decode cX6_here 42 = .ok (.aload_n 0, 1) := by decide +kernel
theorem dX6_here_43 : decode cX6_here 43 = .ok (.getfield 109, 3) := by decide +kernel
theorem dX6_here_46 : decode cX6_here 46 = .ok (.if_icmp .ge 15, 3) := by decide +kernel
theorem dX6_here_49 : decode cX6_here 49 = .ok (.aload_n 0, 1) := by decide +kernel
theorem dX6_here_50 : decode cX6_here 50 = .ok (.getfield 16, 3) := by decide +kernel
theorem dX6_here_53 : decode cX6_here 53 = .ok (.aload_n 0, 1) := by decide +kernel
theorem dX6_here_54 : decode cX6_here 54 = .ok (.getfield 112, 3) := by decide +kernel
theorem dX6_here_57 : decode cX6_here 57 = .ok (.iaload, 1) := by decide +kernel
theorem dX6_here_58 : decode cX6_here 58 = .ok (.goto 4, 3) := by decide +kernel
theorem dX6_here_61 : decode cX6_here 61 = .ok (.iconst 0, 1) := by decide +kernel
theorem dX6_here_62 : decode cX6_here 62 = .ok (.ireturn, 1) := by decide +kernel
theorem dX6_must_0 : decode cX6_must 0 = .ok (.aload_n 0, 1) := by decide +kernel
theorem dX6_must_1 : decode cX6_must 1 = .ok (.aload_n 0, 1) := by decide +kernel
theorem dX6_must_2 : decode cX6_must 2 = .ok (.getfield 115, 3) := by decide +kernel
theorem dX6_must_5 : decode cX6_must 5 = .ok (.ifCond .ne 7, 3) := by decide +kernel
theorem dX6_must_8 : decode cX6_must 8 = .ok (.iload_n 1, 1) := by decide +kernel
theorem dX6_must_9 : decode cX6_must 9 = .ok (.ifCond .ne 7, 3) := by decide +kernel
theorem dX6_must_12 : decode cX6_must 12 = .ok (.iconst 1, 1) := by decide +kernel
theorem dX6_must_13 : decode cX6_must 13 = .ok (.goto 4, 3) := by decide +kernel
theorem dX6_must_16 : decode cX6_must 16 = .ok (.iconst 0, 1) := by decide +kernel
theorem dX6_must_17 : decode cX6_must 17 = .ok (.putfield 115, 3) := by decide +kernel
theorem dX6_must_20 : decode cX6_must 20 = .ok (.aload_n 0, 1) := by decide +kernel
theorem dX6_must_21 : decode cX6_must 21 = .ok (.dup, 1) := by decide +kernel
theorem dX6_must_22 : decode cX6_must 22 = .ok (.getfield 112, 3) := by decide +kernel
theorem dX6_must_25 : decode cX6_must 25 = .ok (.aload_n 0, 1) := by decide +kernel
theorem dX6_must_26 : decode cX6_must 26 = .ok (.getfield 115, 3) := by decide +kernel
theorem dX6_must_29 : decode cX6_must 29 = .ok (.ifCond .eq 7, 3) := by decide +kernel
theorem dX6_must_32 : decode cX6_must 32 = .ok (.iconst 0, 1) := by decide +kernel
theorem dX6_must_33 : decode cX6_must 33 = .ok (.goto 4, 3) := by decide +kernel
theorem dX6_must_36 : decode cX6_must 36 = .ok (.iconst 1, 1) := by decide +kernel
theorem dX6_must_37 : decode cX6_must 37 = .ok (.iadd, 1) := by decide +kernel
theorem dX6_must_38 : decode cX6_must 38 = .ok (.putfield 112, 3) := by decide +kernel
theorem dX6_must_41 : decode cX6_must 41 = .ok (.return_, 1) := by decide +kernel
set_option maxRecDepth 20000 in
theorem ggX6_digit_X6_here : GoodIn wsX6_digit wsX6_here := goodIn_r _ [6, 7, 8, 9, 17, 18, 19, 20, 21, 22, 23, 24, 25, 26, 27, 28, 29, 30, 31, 32, 33, 34, 35, 36] (by decide +kernel) (by decide +kernel)
set_option maxRecDepth 20000 in
theorem gX6_digit_X6_here : GoodIn wsX6_digit (wsV RX6 119 RX6 yX6_here wsX6_here) := goodIn_app (goodIn_of _ (by decide +kernel)) ggX6_digit_X6_here
set_option maxRecDepth 20000 in
theorem ggX6_digit_X6_in : GoodIn wsX6_digit wsX6_in := goodIn_r _ [12] (by decide +kernel) (by decide +kernel)
set_option maxRecDepth 20000 in
theorem gX6_digit_X6_in : GoodIn wsX6_digit (va_wsS RX6 47 yX6_in wsX6_in) := goodIn_app (goodIn_of _ (by decide +kernel)) ggX6_digit_X6_in
set_option maxRecDepth 20000 in
theorem ggX6_digit_X6_must : GoodIn wsX6_digit wsX6_must := goodIn_r _ [16, 1, 7, 17, 18, 19, 20, 21, 22, 23, 24, 25, 26, 27, 28, 29, 30, 31, 32, 33, 34, 35, 36] (by decide +kernel) (by decide +kernel)
set_option maxRecDepth 20000 in
theorem gX6_digit_X6_must : GoodIn wsX6_digit (wsV RX6 122 RX6 yX6_must wsX6_must) := goodIn_app (goodIn_of _ (by decide +kernel)) ggX6_digit_X6_must
theorem dX6_digit_0 : decode cX6_digit 0 = .ok (.aload_n 0, 1) := by decide +kernel
theorem dX6_digit_1 : decode cX6_digit 1 = .ok (.getfield 115, 3) := by decide +kernel
theorem dX6_digit_4 : decode cX6_digit 4 = .ok (.ifCond .eq 7, 3) := by decide +kernel
theorem dX6_digit_7 : decode cX6_digit 7 = .ok (.iconst (-1), 1) := by decide +kernel
theorem dX6_digit_8 : decode cX6_digit 8 = .ok (.goto 10, 3) := by decide +kernel
theorem dX6_digit_11 : decode cX6_digit 11 = .ok (.aload_n 0, 1) := by decide +kernel
theorem dX6_digit_12 : decode cX6_digit 12 = .ok (.invokevirtual 119, 3) := by decide +kernel
theorem dX6_digit_15 : decode cX6_digit 15 = .ok (.bipush 48, 2) := by decide +kernel
theorem dX6_digit_17 : decode cX6_digit 17 = .ok (.isub, 1) := by decide +kernel
theorem dX6_digit_18 : decode cX6_digit 18 = .ok (.istore_n 3, 1) := by decide +kernel
theorem dX6_digit_19 : decode cX6_digit 19 = .ok (.aload_n 0, 1) := by decide +kernel
theorem dX6_digit_20 : decode cX6_digit 20 = .ok (.iload_n 3, 1) := by decide +kernel
theorem dX6_digit_21 : decode cX6_digit 21 = .ok (.i2l, 1) := by decide +kernel
theorem dX6_digit_22 : decode cX6_digit 22 = .ok (.iload_n 1, 1) := by decide +kernel
theorem dX6_digit_23 : decode cX6_digit 23 = .ok (.i2l, 1) := by decide +kernel
theorem dX6_digit_24 : decode cX6_digit 24 = .ok (.iload_n 2, 1) := by decide +kernel
theorem dX6_digit_25 : decode cX6_digit 25 = .ok (.i2l, 1) := by decide +kernel
theorem dX6_digit_26 : decode cX6_digit 26 = .ok (.invokestatic 47, 3) := by decide +kernel
theorem dX6_digit_29 : decode cX6_digit 29 = .ok (.invokevirtual 122, 3) := by decide +kernel
theorem dX6_digit_32 : decode cX6_digit 32 = .ok (.iload_n 3, 1) := by decide +kernel
theorem dX6_digit_33 : decode cX6_digit 33 = .ok (.ireturn, 1) := by decide +kernel
set_option maxRecDepth 20000 in
theorem ggX6_takes_X6_here : GoodIn wsX6_takes wsX6_here := goodIn_r _ [7, 2, 8, 9, 10, 11, 12, 13, 14, 15, 16, 17, 18, 19, 20, 21, 22, 23, 24, 25, 26, 27, 28, 29] (by decide +kernel) (by decide +kernel)
set_option maxRecDepth 20000 in
theorem gX6_takes_X6_here : GoodIn wsX6_takes (wsV RX6 119 RX6 yX6_here wsX6_here) := goodIn_app (goodIn_of _ (by decide +kernel)) ggX6_takes_X6_here
theorem dX6_takes_0 : decode cX6_takes 0 = .ok (.aload_n 0, 1) := by decide +kernel
theorem dX6_takes_1 : decode cX6_takes 1 = .ok (.getfield 115, 3) := by decide +kernel
theorem dX6_takes_4 : decode cX6_takes 4 = .ok (.ifCond .ne 15, 3) := by decide +kernel
theorem dX6_takes_7 : decode cX6_takes 7 = .ok (.aload_n 0, 1) := by decide +kernel
theorem dX6_takes_8 : decode cX6_takes 8 = .ok (.invokevirtual 119, 3) := by decide +kernel
theorem dX6_takes_11 : decode cX6_takes 11 = .ok (.iload_n 1, 1) := by decide +kernel
theorem dX6_takes_12 : decode cX6_takes 12 = .ok (.if_icmp .ne 7, 3) := by decide +kernel
theorem dX6_takes_15 : decode cX6_takes 15 = .ok (.iconst 1, 1) := by decide +kernel
theorem dX6_takes_16 : decode cX6_takes 16 = .ok (.goto 4, 3) := by decide +kernel
theorem dX6_takes_19 : decode cX6_takes 19 = .ok (.iconst 0, 1) := by decide +kernel
theorem dX6_takes_20 : decode cX6_takes 20 = .ok (.istore_n 2, 1) := by decide +kernel
theorem dX6_takes_21 : decode cX6_takes 21 = .ok (.aload_n 0, 1) := by decide +kernel
theorem dX6_takes_22 : decode cX6_takes 22 = .ok (.dup, 1) := by decide +kernel
theorem dX6_takes_23 : decode cX6_takes 23 = .ok (.getfield 112, 3) := by decide +kernel
theorem dX6_takes_26 : decode cX6_takes 26 = .ok (.iload_n 2, 1) := by decide +kernel
theorem dX6_takes_27 : decode cX6_takes 27 = .ok (.ifCond .eq 7, 3) := by decide +kernel
theorem dX6_takes_30 : decode cX6_takes 30 = .ok (.iconst 1, 1) := by decide +kernel
theorem dX6_takes_31 : decode cX6_takes 31 = .ok (.goto 4, 3) := by decide +kernel
theorem dX6_takes_34 : decode cX6_takes 34 = .ok (.iconst 0, 1) := by decide +kernel
theorem dX6_takes_35 : decode cX6_takes 35 = .ok (.iadd, 1) := by decide +kernel
theorem dX6_takes_36 : decode cX6_takes 36 = .ok (.putfield 112, 3) := by decide +kernel
theorem dX6_takes_39 : decode cX6_takes 39 = .ok (.iload_n 2, 1) := by decide +kernel
theorem dX6_takes_40 : decode cX6_takes 40 = .ok (.ireturn, 1) := by decide +kernel
set_option maxRecDepth 20000 in
theorem ggX6_number_X6_here : GoodIn wsX6_number wsX6_here := goodIn_r _ [11, 2, 5, 6, 15, 16, 17, 18, 19, 20, 21, 22, 23, 24, 25, 26, 27, 28, 29, 30, 31, 32, 33, 34] (by decide +kernel) (by decide +kernel)
set_option maxRecDepth 20000 in
theorem gX6_number_X6_here : GoodIn wsX6_number (wsV RX6 119 RX6 yX6_here wsX6_here) := goodIn_app (goodIn_of _ (by decide +kernel)) ggX6_number_X6_here
set_option maxRecDepth 20000 in
theorem ggX6_number_X6_in : GoodIn wsX6_number wsX6_in := goodIn_r _ [14] (by decide +kernel) (by decide +kernel)
set_option maxRecDepth 20000 in
theorem gX6_number_X6_in : GoodIn wsX6_number (va_wsS RX6 47 yX6_in wsX6_in) := goodIn_app (goodIn_of _ (by decide +kernel)) ggX6_number_X6_in
theorem dX6_number_0 : decode cX6_number 0 = .ok (.aload_n 0, 1) := by decide +kernel
theorem dX6_number_1 : decode cX6_number 1 = .ok (.getfield 115, 3) := by decide +kernel
theorem dX6_number_4 : decode cX6_number 4 = .ok (.ifCond .eq 7, 3) := by decide +kernel
theorem dX6_number_7 : decode cX6_number 7 = .ok (.iconst 0, 1) := by decide +kernel
theorem dX6_number_8 : decode cX6_number 8 = .ok (.goto 7, 3) := by decide +kernel
theorem dX6_number_11 : decode cX6_number 11 = .ok (.aload_n 0, 1) := by decide +kernel
theorem dX6_number_12 : decode cX6_number 12 = .ok (.invokevirtual 119, 3) := by decide +kernel
theorem dX6_number_15 : decode cX6_number 15 = .ok (.istore_n 1, 1) := by decide +kernel
theorem dX6_number_16 : decode cX6_number 16 = .ok (.aload_n 0, 1) := by decide +kernel
theorem dX6_number_17 : decode cX6_number 17 = .ok (.getfield 112, 3) := by decide +kernel
theorem dX6_number_20 : decode cX6_number 20 = .ok (.istore_n 2, 1) := by decide +kernel
theorem dX6_number_21 : decode cX6_number 21 = .ok (.iconst 0, 1) := by decide +kernel
theorem dX6_number_22 : decode cX6_number 22 = .ok (.istore_n 3, 1) := by decide +kernel
theorem dX6_number_23 : decode cX6_number 23 = .ok (.aload_n 0, 1) := by decide +kernel
theorem dX6_number_24 : decode cX6_number 24 = .ok (.aload_n 0, 1) := by decide +kernel
theorem dX6_number_25 : decode cX6_number 25 = .ok (.getfield 115, 3) := by decide +kernel
theorem dX6_number_28 : decode cX6_number 28 = .ok (.ifCond .ne 17, 3) := by decide +kernel
theorem dX6_number_31 : decode cX6_number 31 = .ok (.iload_n 1, 1) := by decide +kernel
theorem dX6_number_32 : decode cX6_number 32 = .ok (.i2l, 1) := by decide +kernel
theorem dX6_number_33 : decode cX6_number 33 = .ok (.ldc2_w 126, 3) := by decide +kernel
theorem dX6_number_36 : decode cX6_number 36 = .ok (.ldc2_w 128, 3) := by decide +kernel
theorem dX6_number_39 : decode cX6_number 39 = .ok (.invokestatic 47, 3) := by decide +kernel
theorem dX6_number_42 : decode cX6_number 42 = .ok (.ifCond .ne 7, 3) := by decide +kernel
theorem dX6_number_45 : decode cX6_number 45 = .ok (.iconst 1, 1) := by decide +kernel
theorem dX6_number_46 : decode cX6_number 46 = .ok (.goto 4, 3) := by decide +kernel
theorem dX6_number_49 : decode cX6_number 49 = .ok (.iconst 0, 1) := by decide +kernel
theorem dX6_number_50 : decode cX6_number 50 = .ok (.putfield 115, 3) := by decide +kernel
theorem dX6_number_53 : decode cX6_number 53 = .ok (.aload_n 0, 1) := by decide +kernel
theorem dX6_number_54 : decode cX6_number 54 = .ok (.getfield 115, 3) := by decide +kernel
theorem dX6_number_57 : decode cX6_number 57 = .ok (.ifCond .ne 77, 3) := by decide +kernel
theorem dX6_number_60 : decode cX6_number 60 = .ok (.aload_n 0, 1) := by decide +kernel
theorem dX6_number_61 : decode cX6_number 61 = .ok (.getfield 112, 3) := by decide +kernel
theorem dX6_number_64 : decode cX6_number 64 = .ok (.aload_n 0, 1) := by decide +kernel
theorem dX6_number_65 : decode cX6_number 65 = .ok (.getfield 109, 3) := by decide +kernel
theorem dX6_number_68 : decode cX6_number 68 = .ok (.if_icmp .ge 66, 3) := by decide +kernel
theorem dX6_number_71 : decode cX6_number 71 = .ok (.aload_n 0, 1) := by decide +kernel
theorem dX6_number_72 : decode cX6_number 72 = .ok (.getfield 112, 3) := by decide +kernel
theorem dX6_number_75 : decode cX6_number 75 = .ok (.iload_n 2, 1) := by decide +kernel
theorem dX6_number_76 : decode cX6_number 76 = .ok (.isub, 1) := by decide +kernel
theorem dX6_number_77 : decode cX6_number 77 = .ok (.iconst 2, 1) := by decide +kernel
theorem dX6_number_78 : decode cX6_number 78 = .ok (.if_icmp .ge 56, 3) := by decide +kernel
theorem dX6_number_81 : decode cX6_number 81 = .ok (.aload_n 0, 1) := by decide +kernel
theorem dX6_number_82 : decode cX6_number 82 = .ok (.getfield 16, 3) := by decide +kernel
theorem dX6_number_85 : decode cX6_number 85 = .ok (.aload_n 0, 1) := by decide +kernel
theorem dX6_number_86 : decode cX6_number 86 = .ok (.getfield 112, 3) := by decide +kernel
theorem dX6_number_89 : decode cX6_number 89 = .ok (.iaload, 1) := by decide +kernel
theorem dX6_number_90 : decode cX6_number 90 = .ok (.i2l, 1) := by decide +kernel
theorem dX6_number_91 : decode cX6_number 91 = .ok (.ldc2_w 126, 3) := by decide +kernel
theorem dX6_number_94 : decode cX6_number 94 = .ok (.ldc2_w 128, 3) := by decide +kernel
theorem dX6_number_97 : decode cX6_number 97 = .ok (.invokestatic 47, 3) := by decide +kernel
theorem dX6_number_100 : decode cX6_number 100 = .ok (.ifCond .eq 34, 3) := by decide +kernel
theorem dX6_number_103 : decode cX6_number 103 = .ok (.bipush 10, 2) := by decide +kernel
theorem dX6_number_105 : decode cX6_number 105 = .ok (.iload_n 3, 1) := by decide +kernel
theorem dX6_number_106 : decode cX6_number 106 = .ok (.imul, 1) := by decide +kernel
theorem dX6_number_107 : decode cX6_number 107 = .ok (.aload_n 0, 1) := by decide +kernel
theorem dX6_number_108 : decode cX6_number 108 = .ok (.getfield 16, 3) := by decide +kernel
theorem dX6_number_111 : decode cX6_number 111 = .ok (.aload_n 0, 1) := by decide +kernel
theorem dX6_number_112 : decode cX6_number 112 = .ok (.getfield 112, 3) := by decide +kernel
theorem dX6_number_115 : decode cX6_number 115 = .ok (.iaload, 1) := by decide +kernel
theorem dX6_number_116 : decode cX6_number 116 = .ok (.iadd, 1) := by decide +kernel
theorem dX6_number_117 : decode cX6_number 117 = .ok (.bipush 48, 2) := by decide +kernel
theorem dX6_number_119 : decode cX6_number 119 = .ok (.isub, 1) := by decide +kernel
theorem dX6_number_120 : decode cX6_number 120 = .ok (.istore_n 3, 1) := by decide +kernel
theorem dX6_number_121 : decode cX6_number 121 = .ok (.aload_n 0, 1) := by decide +kernel
theorem dX6_number_122 : decode cX6_number 122 = .ok (.dup, 1) := by decide +kernel
theorem dX6_number_123 : decode cX6_number 123 = .ok (.getfield 112, 3) := by decide +kernel
theorem dX6_number_126 : decode cX6_number 126 = .ok (.iconst 1, 1) := by decide +kernel
theorem dX6_number_127 : decode cX6_number 127 = .ok (.iadd, 1) := by decide +kernel
theorem dX6_number_128 : decode cX6_number 128 = .ok (.putfield 112, 3) := by decide +kernel
theorem dX6_number_131 : decode cX6_number 131 = .ok (.goto (-78), 3) := by decide +kernel
theorem dX6_number_134 : decode cX6_number 134 = .ok (.iload_n 3, 1) := by decide +kernel
theorem dX6_number_135 : decode cX6_number 135 = .ok (.ireturn, 1) := by decide +kernel
set_option maxRecDepth 20000 in
theorem ggX6_readClerks_X6_here : GoodIn wsX6_readClerks wsX6_here := goodIn_r _ [7, 8, 9, 10, 32, 33, 34, 35, 36, 37, 38, 39, 40, 41, 42, 43, 44, 45, 46, 47, 48, 49, 50, 51] (by decide +kernel) (by decide +kernel)
set_option maxRecDepth 20000 in
theorem gX6_readClerks_X6_here : GoodIn wsX6_readClerks (wsV RX6 119 RX6 yX6_here wsX6_here) := goodIn_app (goodIn_of _ (by decide +kernel)) ggX6_readClerks_X6_here
set_option maxRecDepth 20000 in
theorem ggX6_readClerks_X6_must : GoodIn wsX6_readClerks wsX6_must := goodIn_r _ [14, 1, 8, 32, 33, 34, 35, 36, 37, 38, 39, 40, 41, 42, 43, 44, 45, 46, 47, 48, 49, 50, 51] (by decide +kernel) (by decide +kernel)
set_option maxRecDepth 20000 in
theorem gX6_readClerks_X6_must : GoodIn wsX6_readClerks (wsV RX6 122 RX6 yX6_must wsX6_must) := goodIn_app (goodIn_of _ (by decide +kernel)) ggX6_readClerks_X6_must
set_option maxRecDepth 20000 in
theorem ggX6_readClerks_X6_digit : GoodIn wsX6_readClerks wsX6_digit := goodIn_r _ [18, 1, 3, 4, 5, 6, 7, 8, 9, 10, 19, 20, 21, 11, 12, 13, 14, 32, 33, 34, 35, 36, 37, 38, 39, 40, 41, 42, 43, 44, 45, 46, 47, 48, 49, 50, 51] (by decide +kernel) (by decide +kernel)
set_option maxRecDepth 20000 in
theorem gX6_readClerks_X6_digit : GoodIn wsX6_readClerks (wsV RX6 130 RX6 yX6_digit wsX6_digit) := goodIn_app (goodIn_of _ (by decide +kernel)) ggX6_readClerks_X6_digit
set_option maxRecDepth 20000 in
theorem ggX6_readClerks_X6_takes : GoodIn wsX6_readClerks wsX6_takes := goodIn_r _ [25, 1, 8, 3, 4, 5, 6, 7, 9, 10, 32, 33, 34, 35, 36, 37, 38, 39, 40, 41, 42, 43, 44, 45, 46, 47, 48, 49, 50, 51] (by decide +kernel) (by decide +kernel)
set_option maxRecDepth 20000 in
theorem gX6_readClerks_X6_takes : GoodIn wsX6_readClerks (wsV RX6 133 RX6 yX6_takes wsX6_takes) := goodIn_app (goodIn_of _ (by decide +kernel)) ggX6_readClerks_X6_takes
set_option maxRecDepth 20000 in
theorem ggX6_readClerks_X6_number : GoodIn wsX6_readClerks wsX6_number := goodIn_r _ [29, 1, 8, 30, 31, 9, 10, 3, 4, 5, 6, 7, 19, 20, 21, 32, 33, 34, 35, 36, 37, 38, 39, 40, 41, 42, 43, 44, 45, 46, 47, 48, 49, 50, 51] (by decide +kernel) (by decide +kernel)
set_option maxRecDepth 20000 in
theorem gX6_readClerks_X6_number : GoodIn wsX6_readClerks (wsV RX6 136 RX6 yX6_number wsX6_number) := goodIn_app (goodIn_of _ (by decide +kernel)) ggX6_readClerks_X6_number
theorem dX6_readClerks_0 : decode cX6_readClerks 0 = .ok (.iconst 0, 1) := by decide +kernel
theorem dX6_readClerks_1 : decode cX6_readClerks 1 = .ok (.istore_n 1, 1) := by decide +kernel
theorem dX6_readClerks_2 : decode cX6_readClerks 2 = .ok (.aload_n 0, 1) := by decide +kernel
theorem dX6_readClerks_3 : decode cX6_readClerks 3 = .ok (.getfield 115, 3) := by decide +kernel
theorem dX6_readClerks_6 : decode cX6_readClerks 6 = .ok (.ifCond .ne 239, 3) := by decide +kernel
theorem dX6_readClerks_9 : decode cX6_readClerks 9 = .ok (.iload_n 1, 1) := by decide +kernel
theorem dX6_readClerks_10 : decode cX6_readClerks 10 = .ok (.ifCond .eq 12, 3) := by decide +kernel
theorem dX6_readClerks_13 : decode cX6_readClerks 13 = .ok (.aload_n 0, 1) := by decide +kernel
theorem dX6_readClerks_14 : decode cX6_readClerks 14 = .ok (.invokevirtual 119, 3) := by decide +kernel
theorem dX6_readClerks_17 : decode cX6_readClerks 17 = .ok (.bipush 44, 2) := by decide +kernel
theorem dX6_readClerks_19 : decode cX6_readClerks 19 = .ok (.if_icmp .ne 226, 3) := by decide +kernel
theorem dX6_readClerks_22 : decode cX6_readClerks 22 = .ok (.iload_n 1, 1) := by decide +kernel
theorem dX6_readClerks_23 : decode cX6_readClerks 23 = .ok (.ifCond .le 18, 3) := by decide +kernel
theorem dX6_readClerks_26 : decode cX6_readClerks 26 = .ok (.aload_n 0, 1) := by decide +kernel
theorem dX6_readClerks_27 : decode cX6_readClerks 27 = .ok (.iload_n 1, 1) := by decide +kernel
theorem dX6_readClerks_28 : decode cX6_readClerks 28 = .ok (.bipush 6, 2) := by decide +kernel
theorem dX6_readClerks_30 : decode cX6_readClerks 30 = .ok (.if_icmp .ge 7, 3) := by decide +kernel
theorem dX6_readClerks_33 : decode cX6_readClerks 33 = .ok (.iconst 1, 1) := by decide +kernel
theorem dX6_readClerks_34 : decode cX6_readClerks 34 = .ok (.goto 4, 3) := by decide +kernel
theorem dX6_readClerks_37 : decode cX6_readClerks 37 = .ok (.iconst 0, 1) := by decide +kernel
theorem dX6_readClerks_38 : decode cX6_readClerks 38 = .ok (.invokevirtual 122, 3) := by decide +kernel
theorem dX6_readClerks_41 : decode cX6_readClerks 41 = .ok (.aload_n 0, 1) := by decide +kernel
theorem dX6_readClerks_42 : decode cX6_readClerks 42 = .ok (.getfield 115, 3) := by decide +kernel
theorem dX6_readClerks_45 : decode cX6_readClerks 45 = .ok (.ifCond .eq 7, 3) := by decide +kernel
theorem dX6_readClerks_48 : decode cX6_readClerks 48 = .ok (.iconst 0, 1) := by decide +kernel
theorem dX6_readClerks_49 : decode cX6_readClerks 49 = .ok (.goto 7, 3) := by decide +kernel
theorem dX6_readClerks_52 : decode cX6_readClerks 52 = .ok (.aload_n 0, 1) := by decide +kernel
theorem dX6_readClerks_53 : decode cX6_readClerks 53 = .ok (.invokevirtual 119, 3) := by decide +kernel
theorem dX6_readClerks_56 : decode cX6_readClerks 56 = .ok (.istore_n 2, 1) := by decide +kernel
theorem dX6_readClerks_57 : decode cX6_readClerks 57 = .ok (.iload_n 2, 1) := by decide +kernel
theorem dX6_readClerks_58 : decode cX6_readClerks 58 = .ok (.bipush 112, 2) := by decide +kernel
theorem dX6_readClerks_60 : decode cX6_readClerks 60 = .ok (.if_icmp .ne 7, 3) := by decide +kernel
theorem dX6_readClerks_63 : decode cX6_readClerks 63 = .ok (.iconst 0, 1) := by decide +kernel
theorem dX6_readClerks_64 : decode cX6_readClerks 64 = .ok (.goto 44, 3) := by decide +kernel
theorem dX6_readClerks_67 : decode cX6_readClerks 67 = .ok (.iload_n 2, 1) := by decide +kernel
theorem dX6_readClerks_68 : decode cX6_readClerks 68 = .ok (.bipush 110, 2) := by decide +kernel
theorem dX6_readClerks_70 : decode cX6_readClerks 70 = .ok (.if_icmp .ne 7, 3) := by decide +kernel
theorem dX6_readClerks_73 : decode cX6_readClerks 73 = .ok (.iconst 1, 1) := by decide +kernel
theorem dX6_readClerks_74 : decode cX6_readClerks 74 = .ok (.goto 34, 3) := by decide +kernel
theorem dX6_readClerks_77 : decode cX6_readClerks 77 = .ok (.iload_n 2, 1) := by decide +kernel
theorem dX6_readClerks_78 : decode cX6_readClerks 78 = .ok (.bipush 115, 2) := by decide +kernel
theorem dX6_readClerks_80 : decode cX6_readClerks 80 = .ok (.if_icmp .ne 7, 3) := by decide +kernel
theorem dX6_readClerks_83 : decode cX6_readClerks 83 = .ok (.iconst 2, 1) := by decide +kernel
theorem dX6_readClerks_84 : decode cX6_readClerks 84 = .ok (.goto 24, 3) := by decide +kernel
theorem dX6_readClerks_87 : decode cX6_readClerks 87 = .ok (.iload_n 2, 1) := by decide +kernel
theorem dX6_readClerks_88 : decode cX6_readClerks 88 = .ok (.bipush 99, 2) := by decide +kernel
theorem dX6_readClerks_90 : decode cX6_readClerks 90 = .ok (.if_icmp .ne 7, 3) := by decide +kernel
theorem dX6_readClerks_93 : decode cX6_readClerks 93 = .ok (.iconst 3, 1) := by decide +kernel
theorem dX6_readClerks_94 : decode cX6_readClerks 94 = .ok (.goto 14, 3) := by decide +kernel
theorem dX6_readClerks_97 : decode cX6_readClerks 97 = .ok (.iload_n 2, 1) := by decide +kernel
theorem dX6_readClerks_98 : decode cX6_readClerks 98 = .ok (.bipush 111, 2) := by decide +kernel
theorem dX6_readClerks_100 : decode cX6_readClerks 100 = .ok (.if_icmp .ne 7, 3) := by decide +kernel
theorem dX6_readClerks_103 : decode cX6_readClerks 103 = .ok (.iconst 4, 1) := by decide +kernel
theorem dX6_readClerks_104 : decode cX6_readClerks 104 = .ok (.goto 4, 3) := by decide +kernel
theorem dX6_readClerks_107 : decode cX6_readClerks 107 = .ok (.iconst (-1), 1) := by decide +kernel
theorem dX6_readClerks_108 : decode cX6_readClerks 108 = .ok (.istore_n 3, 1) := by decide +kernel
theorem dX6_readClerks_109 : decode cX6_readClerks 109 = .ok (.aload_n 0, 1) := by decide +kernel
theorem dX6_readClerks_110 : decode cX6_readClerks 110 = .ok (.iload_n 3, 1) := by decide +kernel
theorem dX6_readClerks_111 : decode cX6_readClerks 111 = .ok (.ifCond .lt 7, 3) := by decide +kernel
theorem dX6_readClerks_114 : decode cX6_readClerks 114 = .ok (.iconst 1, 1) := by decide +kernel
theorem dX6_readClerks_115 : decode cX6_readClerks 115 = .ok (.goto 4, 3) := by decide +kernel
theorem dX6_readClerks_118 : decode cX6_readClerks 118 = .ok (.iconst 0, 1) := by decide +kernel
theorem dX6_readClerks_119 : decode cX6_readClerks 119 = .ok (.invokevirtual 122, 3) := by decide +kernel
theorem dX6_readClerks_122 : decode cX6_readClerks 122 = .ok (.aload_n 0, 1) := by decide +kernel
theorem dX6_readClerks_123 : decode cX6_readClerks 123 = .ok (.iconst 0, 1) := by decide +kernel
theorem dX6_readClerks_124 : decode cX6_readClerks 124 = .ok (.bipush 9, 2) := by decide +kernel
theorem dX6_readClerks_126 : decode cX6_readClerks 126 = .ok (.invokevirtual 130, 3) := by decide +kernel
theorem dX6_readClerks_129 : decode cX6_readClerks 129 = .ok (.istore 4, 2) := by decide +kernel
theorem dX6_readClerks_131 : decode cX6_readClerks 131 = .ok (.aload_n 0, 1) := by decide +kernel
theorem dX6_readClerks_132 : decode cX6_readClerks 132 = .ok (.iconst 1, 1) := by decide +kernel
theorem dX6_readClerks_133 : decode cX6_readClerks 133 = .ok (.bipush 9, 2) := by decide +kernel
theorem dX6_readClerks_135 : decode cX6_readClerks 135 = .ok (.invokevirtual 130, 3) := by decide +kernel
theorem dX6_readClerks_138 : decode cX6_readClerks 138 = .ok (.istore 5, 2) := by decide +kernel
theorem dX6_readClerks_140 : decode cX6_readClerks 140 = .ok (.aload_n 0, 1) := by decide +kernel
theorem dX6_readClerks_141 : decode cX6_readClerks 141 = .ok (.bipush 47, 2) := by decide +kernel
theorem dX6_readClerks_143 : decode cX6_readClerks 143 = .ok (.invokevirtual 133, 3) := by decide +kernel
theorem dX6_readClerks_146 : decode cX6_readClerks 146 = .ok (.ifCond .eq 10, 3) := by decide +kernel
theorem dX6_readClerks_149 : decode cX6_readClerks 149 = .ok (.aload_n 0, 1) := by decide +kernel
theorem dX6_readClerks_150 : decode cX6_readClerks 150 = .ok (.invokevirtual 136, 3) := by decide +kernel
theorem dX6_readClerks_153 : decode cX6_readClerks 153 = .ok (.goto 4, 3) := by decide +kernel
theorem dX6_readClerks_156 : decode cX6_readClerks 156 = .ok (.iconst 0, 1) := by decide +kernel
theorem dX6_readClerks_157 : decode cX6_readClerks 157 = .ok (.istore 6, 2) := by decide +kernel
theorem dX6_readClerks_159 : decode cX6_readClerks 159 = .ok (.aload_n 0, 1) := by decide +kernel
theorem dX6_readClerks_160 : decode cX6_readClerks 160 = .ok (.bipush 120, 2) := by decide +kernel
theorem dX6_readClerks_162 : decode cX6_readClerks 162 = .ok (.invokevirtual 133, 3) := by decide +kernel
theorem dX6_readClerks_165 : decode cX6_readClerks 165 = .ok (.ifCond .eq 7, 3) := by decide +kernel
theorem dX6_readClerks_168 : decode cX6_readClerks 168 = .ok (.iconst 0, 1) := by decide +kernel
theorem dX6_readClerks_169 : decode cX6_readClerks 169 = .ok (.goto 4, 3) := by decide +kernel
theorem dX6_readClerks_172 : decode cX6_readClerks 172 = .ok (.iconst 1, 1) := by decide +kernel
theorem dX6_readClerks_173 : decode cX6_readClerks 173 = .ok (.istore 7, 2) := by decide +kernel
theorem dX6_readClerks_175 : decode cX6_readClerks 175 = .ok (.aload_n 0, 1) := by decide +kernel
theorem dX6_readClerks_176 : decode cX6_readClerks 176 = .ok (.getfield 115, 3) := by decide +kernel
theorem dX6_readClerks_179 : decode cX6_readClerks 179 = .ok (.ifCond .ne 60, 3) := by decide +kernel
theorem dX6_readClerks_182 : decode cX6_readClerks 182 = .ok (.aload_n 0, 1) := by decide +kernel
theorem dX6_readClerks_183 : decode cX6_readClerks 183 = .ok (.getfield 19, 3) := by decide +kernel
theorem dX6_readClerks_186 : decode cX6_readClerks 186 = .ok (.iconst 5, 1) := by decide +kernel
theorem dX6_readClerks_187 : decode cX6_readClerks 187 = .ok (.iload_n 1, 1) := by decide +kernel
theorem dX6_readClerks_188 : decode cX6_readClerks 188 = .ok (.imul, 1) := by decide +kernel
theorem dX6_readClerks_189 : decode cX6_readClerks 189 = .ok (.iload_n 3, 1) := by decide +kernel
theorem dX6_readClerks_190 : decode cX6_readClerks 190 = .ok (.iastore, 1) := by decide +kernel
theorem dX6_readClerks_191 : decode cX6_readClerks 191 = .ok (.aload_n 0, 1) := by decide +kernel
theorem dX6_readClerks_192 : decode cX6_readClerks 192 = .ok (.getfield 19, 3) := by decide +kernel
theorem dX6_readClerks_195 : decode cX6_readClerks 195 = .ok (.iconst 5, 1) := by decide +kernel
theorem dX6_readClerks_196 : decode cX6_readClerks 196 = .ok (.iload_n 1, 1) := by decide +kernel
theorem dX6_readClerks_197 : decode cX6_readClerks 197 = .ok (.imul, 1) := by decide +kernel
theorem dX6_readClerks_198 : decode cX6_readClerks 198 = .ok (.iconst 1, 1) := by decide +kernel
theorem dX6_readClerks_199 : decode cX6_readClerks 199 = .ok (.iadd, 1) := by decide +kernel
theorem dX6_readClerks_200 : decode cX6_readClerks 200 = .ok (.iload 4, 2) := by decide +kernel
theorem dX6_readClerks_202 : decode cX6_readClerks 202 = .ok (.iastore, 1) := by decide +kernel
theorem dX6_readClerks_203 : decode cX6_readClerks 203 = .ok (.aload_n 0, 1) := by decide +kernel
theorem dX6_readClerks_204 : decode cX6_readClerks 204 = .ok (.getfield 19, 3) := by decide +kernel
theorem dX6_readClerks_207 : decode cX6_readClerks 207 = .ok (.iconst 5, 1) := by decide +kernel
theorem dX6_readClerks_208 : decode cX6_readClerks 208 = .ok (.iload_n 1, 1) := by decide +kernel
theorem dX6_readClerks_209 : decode cX6_readClerks 209 = .ok (.imul, 1) := by decide +kernel
theorem dX6_readClerks_210 : decode cX6_readClerks 210 = .ok (.iconst 2, 1) := by decide +kernel
theorem dX6_readClerks_211 : decode cX6_readClerks 211 = .ok (.iadd, 1) := by decide +kernel
theorem dX6_readClerks_212 : decode cX6_readClerks 212 = .ok (.iload 5, 2) := by decide +kernel
theorem dX6_readClerks_214 : decode cX6_readClerks 214 = .ok (.iastore, 1) := by decide +kernel
theorem dX6_readClerks_215 : decode cX6_readClerks 215 = .ok (.aload_n 0, 1) := by decide +kernel
theorem dX6_readClerks_216 : decode cX6_readClerks 216 = .ok (.getfield 19, 3) := by decide +kernel
theorem dX6_readClerks_219 : decode cX6_readClerks 219 = .ok (.iconst 5, 1) := by decide +kernel
theorem dX6_readClerks_220 : decode cX6_readClerks 220 = .ok (.iload_n 1, 1) := by decide +kernel
theorem dX6_readClerks_221 : decode cX6_readClerks 221 = .ok (.imul, 1) := by decide +kernel
theorem dX6_readClerks_222 : decode cX6_readClerks 222 = .ok (.iconst 3, 1) := by decide +kernel
theorem dX6_readClerks_223 : decode cX6_readClerks 223 = .ok (.iadd, 1) := by decide +kernel
theorem dX6_readClerks_224 : decode cX6_readClerks 224 = .ok (.iload 6, 2) := by decide +kernel
theorem dX6_readClerks_226 : decode cX6_readClerks 226 = .ok (.iastore, 1) := by decide +kernel
theorem dX6_readClerks_227 : decode cX6_readClerks 227 = .ok (.aload_n 0, 1) := by decide +kernel
theorem dX6_readClerks_228 : decode cX6_readClerks 228 = .ok (.getfield 19, 3) := by decide +kernel
theorem dX6_readClerks_231 : decode cX6_readClerks 231 = .ok (.iconst 5, 1) := by decide +kernel
theorem dX6_readClerks_232 : decode cX6_readClerks 232 = .ok (.iload_n 1, 1) := by decide +kernel
theorem dX6_readClerks_233 : decode cX6_readClerks 233 = .ok (.imul, 1) := by decide +kernel
theorem dX6_readClerks_234 : decode cX6_readClerks 234 = .ok (.iconst 4, 1) := by decide +kernel
theorem dX6_readClerks_235 : decode cX6_readClerks 235 = .ok (.iadd, 1) := by decide +kernel
theorem dX6_readClerks_236 : decode cX6_readClerks 236 = .ok (.iload 7, 2) := by decide +kernel
theorem dX6_readClerks_238 : decode cX6_readClerks 238 = .ok (.iastore, 1) := by decide +kernel
theorem dX6_readClerks_239 : decode cX6_readClerks 239 = .ok (.iinc 1 1, 3) := by decide +kernel
theorem dX6_readClerks_242 : decode cX6_readClerks 242 = .ok (.goto (-240), 3) := by decide +kernel
theorem dX6_readClerks_245 : decode cX6_readClerks 245 = .ok (.iload_n 1, 1) := by decide +kernel
theorem dX6_readClerks_246 : decode cX6_readClerks 246 = .ok (.ireturn, 1) := by decide +kernel
set_option maxRecDepth 20000 in
theorem ggX6_office_X6_digit : GoodIn wsX6_office wsX6_digit := goodIn_r _ [10, 2, 11, 12, 13, 9, 14, 1, 3, 15, 16, 17, 18, 19, 20, 21, 22, 42, 43, 44, 45, 46, 47, 48, 49, 50, 51, 52, 53, 54, 55, 56, 57, 58, 59, 60, 61] (by decide +kernel) (by decide +kernel)
set_option maxRecDepth 20000 in
theorem gX6_office_X6_digit : GoodIn wsX6_office (wsV RX6 130 RX6 yX6_digit wsX6_digit) := goodIn_app (goodIn_of _ (by decide +kernel)) ggX6_office_X6_digit
set_option maxRecDepth 20000 in
theorem ggX6_office_X6_here : GoodIn wsX6_office wsX6_here := goodIn_r _ [14, 1, 3, 15, 42, 43, 44, 45, 46, 47, 48, 49, 50, 51, 52, 53, 54, 55, 56, 57, 58, 59, 60, 61] (by decide +kernel) (by decide +kernel)
set_option maxRecDepth 20000 in
theorem gX6_office_X6_here : GoodIn wsX6_office (wsV RX6 119 RX6 yX6_here wsX6_here) := goodIn_app (goodIn_of _ (by decide +kernel)) ggX6_office_X6_here
set_option maxRecDepth 20000 in
theorem ggX6_office_X6_must : GoodIn wsX6_office wsX6_must := goodIn_r _ [22, 2, 1, 42, 43, 44, 45, 46, 47, 48, 49, 50, 51, 52, 53, 54, 55, 56, 57, 58, 59, 60, 61] (by decide +kernel) (by decide +kernel)
set_option maxRecDepth 20000 in
theorem gX6_office_X6_must : GoodIn wsX6_office (wsV RX6 122 RX6 yX6_must wsX6_must) := goodIn_app (goodIn_of _ (by decide +kernel)) ggX6_office_X6_must
set_option maxRecDepth 20000 in
theorem ggX6_office_X6_readClerks : GoodIn wsX6_office wsX6_readClerks := goodIn_r _ [26, 2, 5, 11, 12, 13, 9, 14, 1, 3, 15, 19, 20, 21, 22, 6, 7, 8, 10, 16, 17, 18, 27, 28, 29, 30, 31, 32, 33, 34, 35, 36, 42, 43, 44, 45, 46, 47, 48, 49, 50, 51, 52, 53, 54, 55, 56, 57, 58, 59, 60, 61] (by decide +kernel) (by decide +kernel)
set_option maxRecDepth 20000 in
theorem gX6_office_X6_readClerks : GoodIn wsX6_office (wsV RX6 139 RX6 yX6_readClerks wsX6_readClerks) := goodIn_app (goodIn_of _ (by decide +kernel)) ggX6_office_X6_readClerks
set_option maxRecDepth 20000 in
theorem ggX6_office_X6_comes : GoodIn wsX6_office wsX6_comes := goodIn_r _ [40, 4, 41, 42, 43, 44, 45, 46, 47, 48, 49, 50, 51, 52, 53, 54, 55, 56, 57, 58, 59, 60, 61] (by decide +kernel) (by decide +kernel)
set_option maxRecDepth 20000 in
theorem gX6_office_X6_comes : GoodIn wsX6_office (wsV RX6 89 RX6 yX6_comes wsX6_comes) := goodIn_app (goodIn_of _ (by decide +kernel)) ggX6_office_X6_comes
theorem dX6_office_0 : decode cX6_office 0 = .ok (.aload_n 0, 1) := by decide +kernel
theorem dX6_office_1 : decode cX6_office 1 = .ok (.iconst 0, 1) := by decide +kernel
theorem dX6_office_2 : decode cX6_office 2 = .ok (.putfield 112, 3) := by decide +kernel
theorem dX6_office_5 : decode cX6_office 5 = .ok (.aload_n 0, 1) := by decide +kernel
theorem dX6_office_6 : decode cX6_office 6 = .ok (.iconst 0, 1) := by decide +kernel
theorem dX6_office_7 : decode cX6_office 7 = .ok (.putfield 115, 3) := by decide +kernel
theorem dX6_office_10 : decode cX6_office 10 = .ok (.aload_n 0, 1) := by decide +kernel
theorem dX6_office_11 : decode cX6_office 11 = .ok (.iconst 1, 1) := by decide +kernel
theorem dX6_office_12 : decode cX6_office 12 = .ok (.bipush 9, 2) := by decide +kernel
theorem dX6_office_14 : decode cX6_office 14 = .ok (.invokevirtual 130, 3) := by decide +kernel
theorem dX6_office_17 : decode cX6_office 17 = .ok (.istore_n 1, 1) := by decide +kernel
theorem dX6_office_18 : decode cX6_office 18 = .ok (.aload_n 0, 1) := by decide +kernel
theorem dX6_office_19 : decode cX6_office 19 = .ok (.iconst 0, 1) := by decide +kernel
theorem dX6_office_20 : decode cX6_office 20 = .ok (.bipush 9, 2) := by decide +kernel
theorem dX6_office_22 : decode cX6_office 22 = .ok (.invokevirtual 130, 3) := by decide +kernel
theorem dX6_office_25 : decode cX6_office 25 = .ok (.istore_n 2, 1) := by decide +kernel
theorem dX6_office_26 : decode cX6_office 26 = .ok (.aload_n 0, 1) := by decide +kernel
theorem dX6_office_27 : decode cX6_office 27 = .ok (.aload_n 0, 1) := by decide +kernel
theorem dX6_office_28 : decode cX6_office 28 = .ok (.getfield 115, 3) := by decide +kernel
theorem dX6_office_31 : decode cX6_office 31 = .ok (.ifCond .ne 16, 3) := by decide +kernel
theorem dX6_office_34 : decode cX6_office 34 = .ok (.aload_n 0, 1) := by decide +kernel
theorem dX6_office_35 : decode cX6_office 35 = .ok (.invokevirtual 119, 3) := by decide +kernel
theorem dX6_office_38 : decode cX6_office 38 = .ok (.bipush 59, 2) := by decide +kernel
theorem dX6_office_40 : decode cX6_office 40 = .ok (.if_icmp .ne 7, 3) := by decide +kernel
theorem dX6_office_43 : decode cX6_office 43 = .ok (.iconst 1, 1) := by decide +kernel
theorem dX6_office_44 : decode cX6_office 44 = .ok (.goto 4, 3) := by decide +kernel
theorem dX6_office_47 : decode cX6_office 47 = .ok (.iconst 0, 1) := by decide +kernel
theorem dX6_office_48 : decode cX6_office 48 = .ok (.invokevirtual 122, 3) := by decide +kernel
theorem dX6_office_51 : decode cX6_office 51 = .ok (.aload_n 0, 1) := by decide +kernel
theorem dX6_office_52 : decode cX6_office 52 = .ok (.invokevirtual 139, 3) := by decide +kernel
theorem dX6_office_55 : decode cX6_office 55 = .ok (.istore_n 3, 1) := by decide +kernel
theorem dX6_office_56 : decode cX6_office 56 = .ok (.aload_n 0, 1) := by decide +kernel
theorem dX6_office_57 : decode cX6_office 57 = .ok (.aload_n 0, 1) := by decide +kernel
theorem dX6_office_58 : decode cX6_office 58 = .ok (.getfield 115, 3) := by decide +kernel
theorem dX6_office_61 : decode cX6_office 61 = .ok (.ifCond .ne 10, 3) := by decide +kernel
theorem dX6_office_64 : decode cX6_office 64 = .ok (.aload_n 0, 1) := by decide +kernel
theorem dX6_office_65 : decode cX6_office 65 = .ok (.invokevirtual 119, 3) := by decide +kernel
theorem dX6_office_68 : decode cX6_office 68 = .ok (.ifCond .eq 7, 3) := by decide +kernel
theorem dX6_office_71 : decode cX6_office 71 = .ok (.iconst 1, 1) := by decide +kernel
theorem dX6_office_72 : decode cX6_office 72 = .ok (.goto 4, 3) := by decide +kernel
theorem dX6_office_75 : decode cX6_office 75 = .ok (.iconst 0, 1) := by decide +kernel
theorem dX6_office_76 : decode cX6_office 76 = .ok (.putfield 115, 3) := by decide +kernel
theorem dX6_office_79 : decode cX6_office 79 = .ok (.aload_n 0, 1) := by decide +kernel
theorem dX6_office_80 : decode cX6_office 80 = .ok (.iconst 0, 1) := by decide +kernel
theorem dX6_office_81 : decode cX6_office 81 = .ok (.putfield 109, 3) := by decide +kernel
theorem dX6_office_84 : decode cX6_office 84 = .ok (.aload_n 0, 1) := by decide +kernel
theorem dX6_office_85 : decode cX6_office 85 = .ok (.getfield 115, 3) := by decide +kernel
theorem dX6_office_88 : decode cX6_office 88 = .ok (.ifCond .eq 11, 3) := by decide +kernel
theorem dX6_office_91 : decode cX6_office 91 = .ok (.bipush (-20), 2) := by decide +kernel
theorem dX6_office_93 : decode cX6_office 93 = .ok (.aload_n 0, 1) := by decide +kernel
theorem dX6_office_94 : decode cX6_office 94 = .ok (.getfield 112, 3) := by decide +kernel
theorem dX6_office_97 : decode cX6_office 97 = .ok (.isub, 1) := by decide +kernel
theorem dX6_office_98 : decode cX6_office 98 = .ok (.ireturn, 1) := by decide +kernel
theorem dX6_office_99 : decode cX6_office 99 = .ok (.aload_n 0, 1) := by decide +kernel
theorem dX6_office_100 : decode cX6_office 100 = .ok (.getfield 7, 3) := by decide +kernel
theorem dX6_office_103 : decode cX6_office 103 = .ok (.iconst 0, 1) := by decide +kernel
theorem dX6_office_104 : decode cX6_office 104 = .ok (.iconst 0, 1) := by decide +kernel
theorem dX6_office_105 : decode cX6_office 105 = .ok (.iastore, 1) := by decide +kernel
theorem dX6_office_106 : decode cX6_office 106 = .ok (.aload_n 0, 1) := by decide +kernel
theorem dX6_office_107 : decode cX6_office 107 = .ok (.getfield 7, 3) := by decide +kernel
theorem dX6_office_110 : decode cX6_office 110 = .ok (.iconst 1, 1) := by decide +kernel
theorem dX6_office_111 : decode cX6_office 111 = .ok (.iconst 0, 1) := by decide +kernel
theorem dX6_office_112 : decode cX6_office 112 = .ok (.iastore, 1) := by decide +kernel
theorem dX6_office_113 : decode cX6_office 113 = .ok (.aload_n 0, 1) := by decide +kernel
theorem dX6_office_114 : decode cX6_office 114 = .ok (.getfield 7, 3) := by decide +kernel
theorem dX6_office_117 : decode cX6_office 117 = .ok (.iconst 2, 1) := by decide +kernel
theorem dX6_office_118 : decode cX6_office 118 = .ok (.iload_n 1, 1) := by decide +kernel
theorem dX6_office_119 : decode cX6_office 119 = .ok (.iastore, 1) := by decide +kernel
theorem dX6_office_120 : decode cX6_office 120 = .ok (.aload_n 0, 1) := by decide +kernel
theorem dX6_office_121 : decode cX6_office 121 = .ok (.getfield 7, 3) := by decide +kernel
theorem dX6_office_124 : decode cX6_office 124 = .ok (.iconst 3, 1) := by decide +kernel
theorem dX6_office_125 : decode cX6_office 125 = .ok (.iload_n 2, 1) := by decide +kernel
theorem dX6_office_126 : decode cX6_office 126 = .ok (.iastore, 1) := by decide +kernel
theorem dX6_office_127 : decode cX6_office 127 = .ok (.iconst 0, 1) := by decide +kernel
theorem dX6_office_128 : decode cX6_office 128 = .ok (.istore 4, 2) := by decide +kernel
theorem dX6_office_130 : decode cX6_office 130 = .ok (.iload 4, 2) := by decide +kernel
theorem dX6_office_132 : decode cX6_office 132 = .ok (.iload_n 3, 1) := by decide +kernel
theorem dX6_office_133 : decode cX6_office 133 = .ok (.if_icmp .ge 66, 3) := by decide +kernel
theorem dX6_office_136 : decode cX6_office 136 = .ok (.aload_n 0, 1) := by decide +kernel
theorem dX6_office_137 : decode cX6_office 137 = .ok (.aload_n 0, 1) := by decide +kernel
theorem dX6_office_138 : decode cX6_office 138 = .ok (.getfield 19, 3) := by decide +kernel
theorem dX6_office_141 : decode cX6_office 141 = .ok (.iconst 5, 1) := by decide +kernel
theorem dX6_office_142 : decode cX6_office 142 = .ok (.iload 4, 2) := by decide +kernel
theorem dX6_office_144 : decode cX6_office 144 = .ok (.imul, 1) := by decide +kernel
theorem dX6_office_145 : decode cX6_office 145 = .ok (.iaload, 1) := by decide +kernel
theorem dX6_office_146 : decode cX6_office 146 = .ok (.aload_n 0, 1) := by decide +kernel
theorem dX6_office_147 : decode cX6_office 147 = .ok (.getfield 19, 3) := by decide +kernel
theorem dX6_office_150 : decode cX6_office 150 = .ok (.iconst 5, 1) := by decide +kernel
theorem dX6_office_151 : decode cX6_office 151 = .ok (.iload 4, 2) := by decide +kernel
theorem dX6_office_153 : decode cX6_office 153 = .ok (.imul, 1) := by decide +kernel
theorem dX6_office_154 : decode cX6_office 154 = .ok (.iconst 1, 1) := by decide +kernel
theorem dX6_office_155 : decode cX6_office 155 = .ok (.iadd, 1) := by decide +kernel
theorem dX6_office_156 : decode cX6_office 156 = .ok (.iaload, 1) := by decide +kernel
theorem dX6_office_157 : decode cX6_office 157 = .ok (.aload_n 0, 1) := by decide +kernel
theorem dX6_office_158 : decode cX6_office 158 = .ok (.getfield 19, 3) := by decide +kernel
theorem dX6_office_161 : decode cX6_office 161 = .ok (.iconst 5, 1) := by decide +kernel
theorem dX6_office_162 : decode cX6_office 162 = .ok (.iload 4, 2) := by decide +kernel
theorem dX6_office_164 : decode cX6_office 164 = .ok (.imul, 1) := by decide +kernel
theorem dX6_office_165 : decode cX6_office 165 = .ok (.iconst 2, 1) := by decide +kernel
theorem dX6_office_166 : decode cX6_office 166 = .ok (.iadd, 1) := by decide +kernel
theorem dX6_office_167 : decode cX6_office 167 = .ok (.iaload, 1) := by decide +kernel
theorem dX6_office_168 : decode cX6_office 168 = .ok (.aload_n 0, 1) := by decide +kernel
theorem dX6_office_169 : decode cX6_office 169 = .ok (.getfield 19, 3) := by decide +kernel
theorem dX6_office_172 : decode cX6_office 172 = .ok (.iconst 5, 1) := by decide +kernel
theorem dX6_office_173 : decode cX6_office 173 = .ok (.iload 4, 2) := by decide +kernel
theorem dX6_office_175 : decode cX6_office 175 = .ok (.imul, 1) := by decide +kernel
theorem dX6_office_176 : decode cX6_office 176 = .ok (.iconst 3, 1) := by decide +kernel
theorem dX6_office_177 : decode cX6_office 177 = .ok (.iadd, 1) := by decide +kernel
theorem dX6_office_178 : decode cX6_office 178 = .ok (.iaload, 1) := by decide +kernel
theorem dX6_office_179 : decode cX6_office 179 = .ok (.aload_n 0, 1) := by decide +kernel
theorem dX6_office_180 : decode cX6_office 180 = .ok (.getfield 19, 3) := by decide +kernel
theorem dX6_office_183 : decode cX6_office 183 = .ok (.iconst 5, 1) := by decide +kernel
theorem dX6_office_184 : decode cX6_office 184 = .ok (.iload 4, 2) := by decide +kernel
theorem dX6_office_186 : decode cX6_office 186 = .ok (.imul, 1) := by decide +kernel
theorem dX6_office_187 : decode cX6_office 187 = .ok (.iconst 4, 1) := by decide +kernel
theorem dX6_office_188 : decode cX6_office 188 = .ok (.iadd, 1) := by decide +kernel
theorem dX6_office_189 : decode cX6_office 189 = .ok (.iaload, 1) := by decide +kernel
theorem dX6_office_190 : decode cX6_office 190 = .ok (.invokevirtual 89, 3) := by decide +kernel
theorem dX6_office_193 : decode cX6_office 193 = .ok (.iinc 4 1, 3) := by decide +kernel
theorem dX6_office_196 : decode cX6_office 196 = .ok (.goto (-66), 3) := by decide +kernel
theorem dX6_office_199 : decode cX6_office 199 = .ok (.iload_n 3, 1) := by decide +kernel
theorem dX6_office_200 : decode cX6_office 200 = .ok (.ireturn, 1) := by decide +kernel
set_option maxRecDepth 20000 in
theorem ggX6_notes_X6_ash : GoodIn wsX6_notes wsX6_ash := goodIn_r _ [8, 9, 10, 11, 7, 12, 3, 13, 14, 15, 16, 17, 18, 19, 20, 21, 22, 23, 24, 25, 26, 27, 28, 29, 30, 31, 32] (by decide +kernel) (by decide +kernel)
set_option maxRecDepth 20000 in
theorem gX6_notes_X6_ash : GoodIn wsX6_notes (wsV RX6 63 RX6 yX6_ash wsX6_ash) := goodIn_app (goodIn_of _ (by decide +kernel)) ggX6_notes_X6_ash
set_option maxRecDepth 20000 in
theorem ggX6_notes_X6_told : GoodIn wsX6_notes wsX6_told := goodIn_r _ [12, 3, 13, 14, 15, 16, 17, 18, 19, 20, 21, 22, 23, 24, 25, 26, 27, 28, 29, 30, 31, 32] (by decide +kernel) (by decide +kernel)
set_option maxRecDepth 20000 in
theorem gX6_notes_X6_told : GoodIn wsX6_notes (wsV RX6 55 RX6 yX6_told wsX6_told) := goodIn_app (goodIn_of _ (by decide +kernel)) ggX6_notes_X6_told
theorem dX6_notes_0 : decode cX6_notes 0 = .ok (.aload_n 0, 1) := by decide +kernel
theorem dX6_notes_1 : decode cX6_notes 1 = .ok (.getfield 81, 3) := by decide +kernel
theorem dX6_notes_4 : decode cX6_notes 4 = .ok (.bipush 8, 2) := by decide +kernel
theorem dX6_notes_6 : decode cX6_notes 6 = .ok (.if_icmp .ne 39, 3) := by decide +kernel
theorem dX6_notes_9 : decode cX6_notes 9 = .ok (.bipush 14, 2) := by decide +kernel
theorem dX6_notes_11 : decode cX6_notes 11 = .ok (.istore_n 1, 1) := by decide +kernel
theorem dX6_notes_12 : decode cX6_notes 12 = .ok (.iload_n 1, 1) := by decide +kernel
theorem dX6_notes_13 : decode cX6_notes 13 = .ok (.bipush 112, 2) := by decide +kernel
theorem dX6_notes_15 : decode cX6_notes 15 = .ok (.if_icmp .ge 24, 3) := by decide +kernel
theorem dX6_notes_18 : decode cX6_notes 18 = .ok (.aload_n 0, 1) := by decide +kernel
theorem dX6_notes_19 : decode cX6_notes 19 = .ok (.getfield 22, 3) := by decide +kernel
theorem dX6_notes_22 : decode cX6_notes 22 = .ok (.iload_n 1, 1) := by decide +kernel
theorem dX6_notes_23 : decode cX6_notes 23 = .ok (.bipush 14, 2) := by decide +kernel
theorem dX6_notes_25 : decode cX6_notes 25 = .ok (.isub, 1) := by decide +kernel
theorem dX6_notes_26 : decode cX6_notes 26 = .ok (.aload_n 0, 1) := by decide +kernel
theorem dX6_notes_27 : decode cX6_notes 27 = .ok (.getfield 22, 3) := by decide +kernel
theorem dX6_notes_30 : decode cX6_notes 30 = .ok (.iload_n 1, 1) := by decide +kernel
theorem dX6_notes_31 : decode cX6_notes 31 = .ok (.iaload, 1) := by decide +kernel
theorem dX6_notes_32 : decode cX6_notes 32 = .ok (.iastore, 1) := by decide +kernel
theorem dX6_notes_33 : decode cX6_notes 33 = .ok (.iinc 1 1, 3) := by decide +kernel
theorem dX6_notes_36 : decode cX6_notes 36 = .ok (.goto (-24), 3) := by decide +kernel
theorem dX6_notes_39 : decode cX6_notes 39 = .ok (.aload_n 0, 1) := by decide +kernel
theorem dX6_notes_40 : decode cX6_notes 40 = .ok (.bipush 7, 2) := by decide +kernel
theorem dX6_notes_42 : decode cX6_notes 42 = .ok (.putfield 81, 3) := by decide +kernel
theorem dX6_notes_45 : decode cX6_notes 45 = .ok (.bipush 14, 2) := by decide +kernel
theorem dX6_notes_47 : decode cX6_notes 47 = .ok (.aload_n 0, 1) := by decide +kernel
theorem dX6_notes_48 : decode cX6_notes 48 = .ok (.getfield 81, 3) := by decide +kernel
theorem dX6_notes_51 : decode cX6_notes 51 = .ok (.imul, 1) := by decide +kernel
theorem dX6_notes_52 : decode cX6_notes 52 = .ok (.istore_n 1, 1) := by decide +kernel
theorem dX6_notes_53 : decode cX6_notes 53 = .ok (.aload_n 0, 1) := by decide +kernel
theorem dX6_notes_54 : decode cX6_notes 54 = .ok (.getfield 22, 3) := by decide +kernel
theorem dX6_notes_57 : decode cX6_notes 57 = .ok (.iload_n 1, 1) := by decide +kernel
theorem dX6_notes_58 : decode cX6_notes 58 = .ok (.aload_n 0, 1) := by decide +kernel
theorem dX6_notes_59 : decode cX6_notes 59 = .ok (.getfield 7, 3) := by decide +kernel
theorem dX6_notes_62 : decode cX6_notes 62 = .ok (.iconst 1, 1) := by decide +kernel
theorem dX6_notes_63 : decode cX6_notes 63 = .ok (.iaload, 1) := by decide +kernel
theorem dX6_notes_64 : decode cX6_notes 64 = .ok (.iastore, 1) := by decide +kernel
theorem dX6_notes_65 : decode cX6_notes 65 = .ok (.aload_n 0, 1) := by decide +kernel
theorem dX6_notes_66 : decode cX6_notes 66 = .ok (.getfield 22, 3) := by decide +kernel
theorem dX6_notes_69 : decode cX6_notes 69 = .ok (.iload_n 1, 1) := by decide +kernel
theorem dX6_notes_70 : decode cX6_notes 70 = .ok (.iconst 1, 1) := by decide +kernel
theorem dX6_notes_71 : decode cX6_notes 71 = .ok (.iadd, 1) := by decide +kernel
theorem dX6_notes_72 : decode cX6_notes 72 = .ok (.aload_n 0, 1) := by decide +kernel
theorem dX6_notes_73 : decode cX6_notes 73 = .ok (.getfield 7, 3) := by decide +kernel
theorem dX6_notes_76 : decode cX6_notes 76 = .ok (.iconst 4, 1) := by decide +kernel
theorem dX6_notes_77 : decode cX6_notes 77 = .ok (.iaload, 1) := by decide +kernel
theorem dX6_notes_78 : decode cX6_notes 78 = .ok (.iastore, 1) := by decide +kernel
theorem dX6_notes_79 : decode cX6_notes 79 = .ok (.iconst 0, 1) := by decide +kernel
theorem dX6_notes_80 : decode cX6_notes 80 = .ok (.istore_n 2, 1) := by decide +kernel
theorem dX6_notes_81 : decode cX6_notes 81 = .ok (.iload_n 2, 1) := by decide +kernel
theorem dX6_notes_82 : decode cX6_notes 82 = .ok (.bipush 6, 2) := by decide +kernel
theorem dX6_notes_84 : decode cX6_notes 84 = .ok (.if_icmp .ge 41, 3) := by decide +kernel
theorem dX6_notes_87 : decode cX6_notes 87 = .ok (.aload_n 0, 1) := by decide +kernel
theorem dX6_notes_88 : decode cX6_notes 88 = .ok (.getfield 22, 3) := by decide +kernel
theorem dX6_notes_91 : decode cX6_notes 91 = .ok (.iload_n 1, 1) := by decide +kernel
theorem dX6_notes_92 : decode cX6_notes 92 = .ok (.iconst 2, 1) := by decide +kernel
theorem dX6_notes_93 : decode cX6_notes 93 = .ok (.iadd, 1) := by decide +kernel
theorem dX6_notes_94 : decode cX6_notes 94 = .ok (.iload_n 2, 1) := by decide +kernel
theorem dX6_notes_95 : decode cX6_notes 95 = .ok (.iadd, 1) := by decide +kernel
theorem dX6_notes_96 : decode cX6_notes 96 = .ok (.aload_n 0, 1) := by decide +kernel
theorem dX6_notes_97 : decode cX6_notes 97 = .ok (.iload_n 2, 1) := by decide +kernel
theorem dX6_notes_98 : decode cX6_notes 98 = .ok (.invokevirtual 63, 3) := by decide +kernel
theorem dX6_notes_101 : decode cX6_notes 101 = .ok (.iastore, 1) := by decide +kernel
theorem dX6_notes_102 : decode cX6_notes 102 = .ok (.aload_n 0, 1) := by decide +kernel
theorem dX6_notes_103 : decode cX6_notes 103 = .ok (.getfield 22, 3) := by decide +kernel
theorem dX6_notes_106 : decode cX6_notes 106 = .ok (.iload_n 1, 1) := by decide +kernel
theorem dX6_notes_107 : decode cX6_notes 107 = .ok (.bipush 8, 2) := by decide +kernel
theorem dX6_notes_109 : decode cX6_notes 109 = .ok (.iadd, 1) := by decide +kernel
theorem dX6_notes_110 : decode cX6_notes 110 = .ok (.iload_n 2, 1) := by decide +kernel
theorem dX6_notes_111 : decode cX6_notes 111 = .ok (.iadd, 1) := by decide +kernel
theorem dX6_notes_112 : decode cX6_notes 112 = .ok (.aload_n 0, 1) := by decide +kernel
theorem dX6_notes_113 : decode cX6_notes 113 = .ok (.iload_n 2, 1) := by decide +kernel
theorem dX6_notes_114 : decode cX6_notes 114 = .ok (.iconst 4, 1) := by decide +kernel
theorem dX6_notes_115 : decode cX6_notes 115 = .ok (.invokevirtual 55, 3) := by decide +kernel
theorem dX6_notes_118 : decode cX6_notes 118 = .ok (.iastore, 1) := by decide +kernel
theorem dX6_notes_119 : decode cX6_notes 119 = .ok (.iinc 2 1, 3) := by decide +kernel
theorem dX6_notes_122 : decode cX6_notes 122 = .ok (.goto (-41), 3) := by decide +kernel
theorem dX6_notes_125 : decode cX6_notes 125 = .ok (.aload_n 0, 1) := by decide +kernel
theorem dX6_notes_126 : decode cX6_notes 126 = .ok (.dup, 1) := by decide +kernel
theorem dX6_notes_127 : decode cX6_notes 127 = .ok (.getfield 81, 3) := by decide +kernel
theorem dX6_notes_130 : decode cX6_notes 130 = .ok (.iconst 1, 1) := by decide +kernel
theorem dX6_notes_131 : decode cX6_notes 131 = .ok (.iadd, 1) := by decide +kernel
theorem dX6_notes_132 : decode cX6_notes 132 = .ok (.putfield 81, 3) := by decide +kernel
theorem dX6_notes_135 : decode cX6_notes 135 = .ok (.return_, 1) := by decide +kernel
set_option maxRecDepth 20000 in
theorem ggX6_minutes_X6_in : GoodIn wsX6_minutes wsX6_in := goodIn_r _ [6] (by decide +kernel) (by decide +kernel)
set_option maxRecDepth 20000 in
theorem gX6_minutes_X6_in : GoodIn wsX6_minutes (va_wsS RX6 47 yX6_in wsX6_in) := goodIn_app (goodIn_of _ (by decide +kernel)) ggX6_minutes_X6_in
set_option maxRecDepth 20000 in
theorem ggX6_minutes_X6_notes : GoodIn wsX6_minutes wsX6_notes := goodIn_r _ [10, 11, 12, 2, 13, 14, 15, 5, 16, 17, 18, 19, 20, 37, 38, 39, 40, 41, 42, 43, 44, 45, 46, 47, 48, 49, 50, 51, 52, 53, 54, 55, 56] (by decide +kernel) (by decide +kernel)
set_option maxRecDepth 20000 in
theorem gX6_minutes_X6_notes : GoodIn wsX6_minutes (wsV RX6 144 RX6 yX6_notes wsX6_notes) := goodIn_app (goodIn_of _ (by decide +kernel)) ggX6_minutes_X6_notes
set_option maxRecDepth 20000 in
theorem ggX6_minutes_X6_goesBy : GoodIn wsX6_minutes wsX6_goesBy := goodIn_r _ [24, 2, 25, 26, 27, 5, 28, 17, 18, 19, 20, 13, 14, 15, 16, 37, 38, 39, 40, 41, 42, 43, 44, 45, 46, 47, 48, 49, 50, 51, 52, 53, 54, 55, 56] (by decide +kernel) (by decide +kernel)
set_option maxRecDepth 20000 in
theorem gX6_minutes_X6_goesBy : GoodIn wsX6_minutes (wsV RX6 147 RX6 yX6_goesBy wsX6_goesBy) := goodIn_app (goodIn_of _ (by decide +kernel)) ggX6_minutes_X6_goesBy
set_option maxRecDepth 20000 in
theorem ggX6_minutes_X6_payOfAll : GoodIn wsX6_minutes wsX6_payOfAll := goodIn_r _ [32, 2, 33, 34, 35, 5, 36, 13, 14, 15, 16, 17, 18, 19, 20, 37, 38, 39, 40, 41, 42, 43, 44, 45, 46, 47, 48, 49, 50, 51, 52, 53, 54, 55, 56] (by decide +kernel) (by decide +kernel)
set_option maxRecDepth 20000 in
theorem gX6_minutes_X6_payOfAll : GoodIn wsX6_minutes (wsV RX6 98 RX6 yX6_payOfAll wsX6_payOfAll) := goodIn_app (goodIn_of _ (by decide +kernel)) ggX6_minutes_X6_payOfAll
theorem dX6_minutes_0 : decode cX6_minutes 0 = .ok (.iload_n 1, 1) := by decide +kernel
theorem dX6_minutes_1 : decode cX6_minutes 1 = .ok (.i2l, 1) := by decide +kernel
theorem dX6_minutes_2 : decode cX6_minutes 2 = .ok (.lconst 1, 1) := by decide +kernel
theorem dX6_minutes_3 : decode cX6_minutes 3 = .ok (.ldc2_w 142, 3) := by decide +kernel
theorem dX6_minutes_6 : decode cX6_minutes 6 = .ok (.invokestatic 47, 3) := by decide +kernel
theorem dX6_minutes_9 : decode cX6_minutes 9 = .ok (.ifCond .ne 5, 3) := by decide +kernel
theorem dX6_minutes_12 : decode cX6_minutes 12 = .ok (.iconst (-1), 1) := by decide +kernel
theorem dX6_minutes_13 : decode cX6_minutes 13 = .ok (.ireturn, 1) := by decide +kernel
theorem dX6_minutes_14 : decode cX6_minutes 14 = .ok (.aload_n 0, 1) := by decide +kernel
theorem dX6_minutes_15 : decode cX6_minutes 15 = .ok (.getfield 7, 3) := by decide +kernel
theorem dX6_minutes_18 : decode cX6_minutes 18 = .ok (.iconst 1, 1) := by decide +kernel
theorem dX6_minutes_19 : decode cX6_minutes 19 = .ok (.iaload, 1) := by decide +kernel
theorem dX6_minutes_20 : decode cX6_minutes 20 = .ok (.iload_n 1, 1) := by decide +kernel
theorem dX6_minutes_21 : decode cX6_minutes 21 = .ok (.iadd, 1) := by decide +kernel
theorem dX6_minutes_22 : decode cX6_minutes 22 = .ok (.sipush 9999, 3) := by decide +kernel
theorem dX6_minutes_25 : decode cX6_minutes 25 = .ok (.if_icmp .le 6, 3) := by decide +kernel
theorem dX6_minutes_28 : decode cX6_minutes 28 = .ok (.bipush (-3), 2) := by decide +kernel
theorem dX6_minutes_30 : decode cX6_minutes 30 = .ok (.ireturn, 1) := by decide +kernel
theorem dX6_minutes_31 : decode cX6_minutes 31 = .ok (.iconst 0, 1) := by decide +kernel
theorem dX6_minutes_32 : decode cX6_minutes 32 = .ok (.istore_n 2, 1) := by decide +kernel
theorem dX6_minutes_33 : decode cX6_minutes 33 = .ok (.iload_n 2, 1) := by decide +kernel
theorem dX6_minutes_34 : decode cX6_minutes 34 = .ok (.iload_n 1, 1) := by decide +kernel
theorem dX6_minutes_35 : decode cX6_minutes 35 = .ok (.if_icmp .ge 17, 3) := by decide +kernel
theorem dX6_minutes_38 : decode cX6_minutes 38 = .ok (.aload_n 0, 1) := by decide +kernel
theorem dX6_minutes_39 : decode cX6_minutes 39 = .ok (.invokevirtual 144, 3) := by decide +kernel
theorem dX6_minutes_42 : decode cX6_minutes 42 = .ok (.aload_n 0, 1) := by decide +kernel
theorem dX6_minutes_43 : decode cX6_minutes 43 = .ok (.invokevirtual 147, 3) := by decide +kernel
theorem dX6_minutes_46 : decode cX6_minutes 46 = .ok (.iinc 2 1, 3) := by decide +kernel
theorem dX6_minutes_49 : decode cX6_minutes 49 = .ok (.goto (-16), 3) := by decide +kernel
theorem dX6_minutes_52 : decode cX6_minutes 52 = .ok (.aload_n 0, 1) := by decide +kernel
theorem dX6_minutes_53 : decode cX6_minutes 53 = .ok (.invokevirtual 98, 3) := by decide +kernel
theorem dX6_minutes_56 : decode cX6_minutes 56 = .ok (.ireturn, 1) := by decide +kernel
set_option maxRecDepth 20000 in
theorem ggX6_shake_X6_isDesk : GoodIn wsX6_shake wsX6_isDesk := goodIn_r _ [4, 5, 6, 7, 3, 8] (by decide +kernel) (by decide +kernel)
set_option maxRecDepth 20000 in
theorem gX6_shake_X6_isDesk : GoodIn wsX6_shake (va_wsS RX6 86 yX6_isDesk wsX6_isDesk) := goodIn_app (goodIn_of _ (by decide +kernel)) ggX6_shake_X6_isDesk
set_option maxRecDepth 20000 in
theorem ggX6_shake_X6_isForce : GoodIn wsX6_shake wsX6_isForce := goodIn_r _ [11, 12, 6, 7, 3, 8] (by decide +kernel) (by decide +kernel)
set_option maxRecDepth 20000 in
theorem gX6_shake_X6_isForce : GoodIn wsX6_shake (va_wsS RX6 150 yX6_isForce wsX6_isForce) := goodIn_app (goodIn_of _ (by decide +kernel)) ggX6_shake_X6_isForce
set_option maxRecDepth 20000 in
theorem ggX6_shake_X6_notes : GoodIn wsX6_shake wsX6_notes := goodIn_r _ [16, 17, 18, 19, 20, 21, 22, 3, 23, 24, 25, 26, 27, 46, 47, 48, 49, 50, 51, 52, 53, 54, 55, 56, 57, 58, 59, 60, 61, 62, 63, 64, 65] (by decide +kernel) (by decide +kernel)
set_option maxRecDepth 20000 in
theorem gX6_shake_X6_notes : GoodIn wsX6_shake (wsV RX6 144 RX6 yX6_notes wsX6_notes) := goodIn_app (goodIn_of _ (by decide +kernel)) ggX6_shake_X6_notes
set_option maxRecDepth 20000 in
theorem ggX6_shake_X6_shakes : GoodIn wsX6_shake wsX6_shakes := goodIn_r _ [31, 32, 33, 19, 34, 35, 36, 3, 37, 24, 25, 26, 27, 20, 21, 22, 23, 38, 39, 40, 41, 42, 43, 44, 45, 46, 47, 48, 49, 50, 51, 52, 53, 54, 55, 56, 57, 58, 59, 60, 61, 62, 63, 64, 65] (by decide +kernel) (by decide +kernel)
set_option maxRecDepth 20000 in
theorem gX6_shake_X6_shakes : GoodIn wsX6_shake (wsV RX6 153 RX6 yX6_shakes wsX6_shakes) := goodIn_app (goodIn_of _ (by decide +kernel)) ggX6_shake_X6_shakes
theorem dX6_shake_0 : decode cX6_shake 0 = .ok (.iload_n 1, 1) := by decide +kernel
theorem dX6_shake_1 : decode cX6_shake 1 = .ok (.invokestatic 86, 3) := by decide +kernel
theorem dX6_shake_4 : decode cX6_shake 4 = .ok (.ifCond .eq 10, 3) := by decide +kernel
theorem dX6_shake_7 : decode cX6_shake 7 = .ok (.iload_n 2, 1) := by decide +kernel
theorem dX6_shake_8 : decode cX6_shake 8 = .ok (.invokestatic 150, 3) := by decide +kernel
theorem dX6_shake_11 : decode cX6_shake 11 = .ok (.ifCond .ne 5, 3) := by decide +kernel
theorem dX6_shake_14 : decode cX6_shake 14 = .ok (.iconst (-1), 1) := by decide +kernel
theorem dX6_shake_15 : decode cX6_shake 15 = .ok (.ireturn, 1) := by decide +kernel
theorem dX6_shake_16 : decode cX6_shake 16 = .ok (.aload_n 0, 1) := by decide +kernel
theorem dX6_shake_17 : decode cX6_shake 17 = .ok (.invokevirtual 144, 3) := by decide +kernel
theorem dX6_shake_20 : decode cX6_shake 20 = .ok (.aload_n 0, 1) := by decide +kernel
theorem dX6_shake_21 : decode cX6_shake 21 = .ok (.iload_n 1, 1) := by decide +kernel
theorem dX6_shake_22 : decode cX6_shake 22 = .ok (.iload_n 2, 1) := by decide +kernel
theorem dX6_shake_23 : decode cX6_shake 23 = .ok (.invokevirtual 153, 3) := by decide +kernel
theorem dX6_shake_26 : decode cX6_shake 26 = .ok (.ireturn, 1) := by decide +kernel
set_option maxRecDepth 20000 in
theorem ggX6_lay_X6_isClerk : GoodIn wsX6_lay wsX6_isClerk := goodIn_r _ [6, 1, 7, 8, 5, 9, 28, 29, 30, 31, 32, 33, 34, 35, 36, 37, 38, 39, 40, 41, 42, 43, 44, 45, 46, 47] (by decide +kernel) (by decide +kernel)
set_option maxRecDepth 20000 in
theorem gX6_lay_X6_isClerk : GoodIn wsX6_lay (wsV RX6 93 RX6 yX6_isClerk wsX6_isClerk) := goodIn_app (goodIn_of _ (by decide +kernel)) ggX6_lay_X6_isClerk
set_option maxRecDepth 20000 in
theorem ggX6_lay_X6_smokes : GoodIn wsX6_lay wsX6_smokes := goodIn_r _ [13, 14, 15, 16, 5, 17, 1, 28, 29, 30, 31, 32, 33, 34, 35, 36, 37, 38, 39, 40, 41, 42, 43, 44, 45, 46, 47] (by decide +kernel) (by decide +kernel)
set_option maxRecDepth 20000 in
theorem gX6_lay_X6_smokes : GoodIn wsX6_lay (wsV RX6 59 RX6 yX6_smokes wsX6_smokes) := goodIn_app (goodIn_of _ (by decide +kernel)) ggX6_lay_X6_smokes
set_option maxRecDepth 20000 in
theorem ggX6_lay_X6_notes : GoodIn wsX6_lay wsX6_notes := goodIn_r _ [21, 22, 23, 1, 24, 25, 26, 5, 27, 14, 15, 16, 17, 28, 29, 30, 31, 32, 33, 34, 35, 36, 37, 38, 39, 40, 41, 42, 43, 44, 45, 46, 47] (by decide +kernel) (by decide +kernel)
set_option maxRecDepth 20000 in
theorem gX6_lay_X6_notes : GoodIn wsX6_lay (wsV RX6 144 RX6 yX6_notes wsX6_notes) := goodIn_app (goodIn_of _ (by decide +kernel)) ggX6_lay_X6_notes
set_option maxRecDepth 20000 in
theorem ggX6_lay_X6_ash : GoodIn wsX6_lay wsX6_ash := goodIn_r _ [27, 14, 15, 16, 5, 17, 1, 28, 29, 30, 31, 32, 33, 34, 35, 36, 37, 38, 39, 40, 41, 42, 43, 44, 45, 46, 47] (by decide +kernel) (by decide +kernel)
set_option maxRecDepth 20000 in
theorem gX6_lay_X6_ash : GoodIn wsX6_lay (wsV RX6 63 RX6 yX6_ash wsX6_ash) := goodIn_app (goodIn_of _ (by decide +kernel)) ggX6_lay_X6_ash
theorem dX6_lay_0 : decode cX6_lay 0 = .ok (.aload_n 0, 1) := by decide +kernel
theorem dX6_lay_1 : decode cX6_lay 1 = .ok (.iload_n 1, 1) := by decide +kernel
theorem dX6_lay_2 : decode cX6_lay 2 = .ok (.invokevirtual 93, 3) := by decide +kernel
theorem dX6_lay_5 : decode cX6_lay 5 = .ok (.ifCond .ne 5, 3) := by decide +kernel
theorem dX6_lay_8 : decode cX6_lay 8 = .ok (.iconst (-1), 1) := by decide +kernel
theorem dX6_lay_9 : decode cX6_lay 9 = .ok (.ireturn, 1) := by decide +kernel
theorem dX6_lay_10 : decode cX6_lay 10 = .ok (.aload_n 0, 1) := by decide +kernel
theorem dX6_lay_11 : decode cX6_lay 11 = .ok (.iload_n 1, 1) := by decide +kernel
theorem dX6_lay_12 : decode cX6_lay 12 = .ok (.invokevirtual 59, 3) := by decide +kernel
theorem dX6_lay_15 : decode cX6_lay 15 = .ok (.ifCond .ne 6, 3) := by decide +kernel
theorem dX6_lay_18 : decode cX6_lay 18 = .ok (.bipush (-2), 2) := by decide +kernel
theorem dX6_lay_20 : decode cX6_lay 20 = .ok (.ireturn, 1) := by decide +kernel
theorem dX6_lay_21 : decode cX6_lay 21 = .ok (.aload_n 0, 1) := by decide +kernel
theorem dX6_lay_22 : decode cX6_lay 22 = .ok (.invokevirtual 144, 3) := by decide +kernel
theorem dX6_lay_25 : decode cX6_lay 25 = .ok (.aload_n 0, 1) := by decide +kernel
theorem dX6_lay_26 : decode cX6_lay 26 = .ok (.getfield 7, 3) := by decide +kernel
theorem dX6_lay_29 : decode cX6_lay 29 = .ok (.iconst 5, 1) := by decide +kernel
theorem dX6_lay_30 : decode cX6_lay 30 = .ok (.iconst 5, 1) := by decide +kernel
theorem dX6_lay_31 : decode cX6_lay 31 = .ok (.iload_n 1, 1) := by decide +kernel
theorem dX6_lay_32 : decode cX6_lay 32 = .ok (.imul, 1) := by decide +kernel
theorem dX6_lay_33 : decode cX6_lay 33 = .ok (.iadd, 1) := by decide +kernel
theorem dX6_lay_34 : decode cX6_lay 34 = .ok (.iconst 4, 1) := by decide +kernel
theorem dX6_lay_35 : decode cX6_lay 35 = .ok (.iadd, 1) := by decide +kernel
theorem dX6_lay_36 : decode cX6_lay 36 = .ok (.iconst 0, 1) := by decide +kernel
theorem dX6_lay_37 : decode cX6_lay 37 = .ok (.iastore, 1) := by decide +kernel
theorem dX6_lay_38 : decode cX6_lay 38 = .ok (.aload_n 0, 1) := by decide +kernel
theorem dX6_lay_39 : decode cX6_lay 39 = .ok (.iload_n 1, 1) := by decide +kernel
theorem dX6_lay_40 : decode cX6_lay 40 = .ok (.invokevirtual 63, 3) := by decide +kernel
theorem dX6_lay_43 : decode cX6_lay 43 = .ok (.ireturn, 1) := by decide +kernel
set_option maxRecDepth 20000 in
theorem ggX6_light_X6_isClerk : GoodIn wsX6_light wsX6_isClerk := goodIn_r _ [6, 1, 7, 8, 5, 9, 28, 29, 30, 31, 32, 33, 34, 35, 36, 37, 38, 39, 40, 41, 42, 43, 44, 45, 46, 47] (by decide +kernel) (by decide +kernel)
set_option maxRecDepth 20000 in
theorem gX6_light_X6_isClerk : GoodIn wsX6_light (wsV RX6 93 RX6 yX6_isClerk wsX6_isClerk) := goodIn_app (goodIn_of _ (by decide +kernel)) ggX6_light_X6_isClerk
set_option maxRecDepth 20000 in
theorem ggX6_light_X6_smokes : GoodIn wsX6_light wsX6_smokes := goodIn_r _ [13, 14, 15, 16, 5, 17, 1, 28, 29, 30, 31, 32, 33, 34, 35, 36, 37, 38, 39, 40, 41, 42, 43, 44, 45, 46, 47] (by decide +kernel) (by decide +kernel)
set_option maxRecDepth 20000 in
theorem gX6_light_X6_smokes : GoodIn wsX6_light (wsV RX6 59 RX6 yX6_smokes wsX6_smokes) := goodIn_app (goodIn_of _ (by decide +kernel)) ggX6_light_X6_smokes
set_option maxRecDepth 20000 in
theorem ggX6_light_X6_notes : GoodIn wsX6_light wsX6_notes := goodIn_r _ [21, 22, 23, 1, 24, 25, 26, 5, 27, 14, 15, 16, 17, 28, 29, 30, 31, 32, 33, 34, 35, 36, 37, 38, 39, 40, 41, 42, 43, 44, 45, 46, 47] (by decide +kernel) (by decide +kernel)
set_option maxRecDepth 20000 in
theorem gX6_light_X6_notes : GoodIn wsX6_light (wsV RX6 144 RX6 yX6_notes wsX6_notes) := goodIn_app (goodIn_of _ (by decide +kernel)) ggX6_light_X6_notes
set_option maxRecDepth 20000 in
theorem ggX6_light_X6_ash : GoodIn wsX6_light wsX6_ash := goodIn_r _ [27, 14, 15, 16, 5, 17, 1, 28, 29, 30, 31, 32, 33, 34, 35, 36, 37, 38, 39, 40, 41, 42, 43, 44, 45, 46, 47] (by decide +kernel) (by decide +kernel)
set_option maxRecDepth 20000 in
theorem gX6_light_X6_ash : GoodIn wsX6_light (wsV RX6 63 RX6 yX6_ash wsX6_ash) := goodIn_app (goodIn_of _ (by decide +kernel)) ggX6_light_X6_ash
theorem dX6_light_0 : decode cX6_light 0 = .ok (.aload_n 0, 1) := by decide +kernel
theorem dX6_light_1 : decode cX6_light 1 = .ok (.iload_n 1, 1) := by decide +kernel
theorem dX6_light_2 : decode cX6_light 2 = .ok (.invokevirtual 93, 3) := by decide +kernel
theorem dX6_light_5 : decode cX6_light 5 = .ok (.ifCond .ne 5, 3) := by decide +kernel
theorem dX6_light_8 : decode cX6_light 8 = .ok (.iconst (-1), 1) := by decide +kernel
theorem dX6_light_9 : decode cX6_light 9 = .ok (.ireturn, 1) := by decide +kernel
theorem dX6_light_10 : decode cX6_light 10 = .ok (.aload_n 0, 1) := by decide +kernel
theorem dX6_light_11 : decode cX6_light 11 = .ok (.iload_n 1, 1) := by decide +kernel
theorem dX6_light_12 : decode cX6_light 12 = .ok (.invokevirtual 59, 3) := by decide +kernel
theorem dX6_light_15 : decode cX6_light 15 = .ok (.ifCond .eq 6, 3) := by decide +kernel
theorem dX6_light_18 : decode cX6_light 18 = .ok (.bipush (-2), 2) := by decide +kernel
theorem dX6_light_20 : decode cX6_light 20 = .ok (.ireturn, 1) := by decide +kernel
theorem dX6_light_21 : decode cX6_light 21 = .ok (.aload_n 0, 1) := by decide +kernel
theorem dX6_light_22 : decode cX6_light 22 = .ok (.invokevirtual 144, 3) := by decide +kernel
theorem dX6_light_25 : decode cX6_light 25 = .ok (.aload_n 0, 1) := by decide +kernel
theorem dX6_light_26 : decode cX6_light 26 = .ok (.getfield 7, 3) := by decide +kernel
theorem dX6_light_29 : decode cX6_light 29 = .ok (.iconst 5, 1) := by decide +kernel
theorem dX6_light_30 : decode cX6_light 30 = .ok (.iconst 5, 1) := by decide +kernel
theorem dX6_light_31 : decode cX6_light 31 = .ok (.iload_n 1, 1) := by decide +kernel
theorem dX6_light_32 : decode cX6_light 32 = .ok (.imul, 1) := by decide +kernel
theorem dX6_light_33 : decode cX6_light 33 = .ok (.iadd, 1) := by decide +kernel
theorem dX6_light_34 : decode cX6_light 34 = .ok (.iconst 4, 1) := by decide +kernel
theorem dX6_light_35 : decode cX6_light 35 = .ok (.iadd, 1) := by decide +kernel
theorem dX6_light_36 : decode cX6_light 36 = .ok (.iconst 1, 1) := by decide +kernel
theorem dX6_light_37 : decode cX6_light 37 = .ok (.iastore, 1) := by decide +kernel
theorem dX6_light_38 : decode cX6_light 38 = .ok (.aload_n 0, 1) := by decide +kernel
theorem dX6_light_39 : decode cX6_light 39 = .ok (.iload_n 1, 1) := by decide +kernel
theorem dX6_light_40 : decode cX6_light 40 = .ok (.invokevirtual 63, 3) := by decide +kernel
theorem dX6_light_43 : decode cX6_light 43 = .ok (.ireturn, 1) := by decide +kernel
set_option maxRecDepth 20000 in
theorem ggX6_drift_X6_in : GoodIn wsX6_drift wsX6_in := goodIn_r _ [10] (by decide +kernel) (by decide +kernel)
set_option maxRecDepth 20000 in
theorem gX6_drift_X6_in : GoodIn wsX6_drift (va_wsS RX6 47 yX6_in wsX6_in) := goodIn_app (goodIn_of _ (by decide +kernel)) ggX6_drift_X6_in
set_option maxRecDepth 20000 in
theorem ggX6_drift_X6_notes : GoodIn wsX6_drift wsX6_notes := goodIn_r _ [14, 15, 16, 2, 17, 18, 19, 9, 20, 21, 22, 23, 24, 55, 56, 57, 58, 59, 60, 61, 62, 63, 64, 65, 66, 67, 68, 69, 70, 71, 72, 73, 74] (by decide +kernel) (by decide +kernel)
set_option maxRecDepth 20000 in
theorem gX6_drift_X6_notes : GoodIn wsX6_drift (wsV RX6 144 RX6 yX6_notes wsX6_notes) := goodIn_app (goodIn_of _ (by decide +kernel)) ggX6_drift_X6_notes
set_option maxRecDepth 20000 in
theorem ggX6_drift_X6_goesBy : GoodIn wsX6_drift wsX6_goesBy := goodIn_r _ [28, 2, 29, 30, 31, 9, 32, 21, 22, 23, 24, 17, 18, 19, 20, 55, 56, 57, 58, 59, 60, 61, 62, 63, 64, 65, 66, 67, 68, 69, 70, 71, 72, 73, 74] (by decide +kernel) (by decide +kernel)
set_option maxRecDepth 20000 in
theorem gX6_drift_X6_goesBy : GoodIn wsX6_drift (wsV RX6 147 RX6 yX6_goesBy wsX6_goesBy) := goodIn_app (goodIn_of _ (by decide +kernel)) ggX6_drift_X6_goesBy
set_option maxRecDepth 20000 in
theorem ggX6_drift_X6_shakes : GoodIn wsX6_drift wsX6_shakes := goodIn_r _ [36, 37, 38, 2, 39, 40, 41, 9, 42, 21, 22, 23, 24, 17, 18, 19, 20, 43, 44, 45, 46, 29, 30, 31, 32, 55, 56, 57, 58, 59, 60, 61, 62, 63, 64, 65, 66, 67, 68, 69, 70, 71, 72, 73, 74] (by decide +kernel) (by decide +kernel)
set_option maxRecDepth 20000 in
theorem gX6_drift_X6_shakes : GoodIn wsX6_drift (wsV RX6 153 RX6 yX6_shakes wsX6_shakes) := goodIn_app (goodIn_of _ (by decide +kernel)) ggX6_drift_X6_shakes
set_option maxRecDepth 20000 in
theorem ggX6_drift_X6_payOfAll : GoodIn wsX6_drift wsX6_payOfAll := goodIn_r _ [50, 2, 51, 52, 53, 9, 54, 17, 18, 19, 20, 21, 22, 23, 24, 55, 56, 57, 58, 59, 60, 61, 62, 63, 64, 65, 66, 67, 68, 69, 70, 71, 72, 73, 74] (by decide +kernel) (by decide +kernel)
set_option maxRecDepth 20000 in
theorem gX6_drift_X6_payOfAll : GoodIn wsX6_drift (wsV RX6 98 RX6 yX6_payOfAll wsX6_payOfAll) := goodIn_app (goodIn_of _ (by decide +kernel)) ggX6_drift_X6_payOfAll
theorem dX6_drift_0 : decode cX6_drift 0 = .ok (.iload_n 1, 1) := by decide +kernel
theorem dX6_drift_1 : decode cX6_drift 1 = .ok (.i2l, 1) := by decide +kernel
theorem dX6_drift_2 : decode cX6_drift 2 = .ok (.lconst 1, 1) := by decide +kernel
theorem dX6_drift_3 : decode cX6_drift 3 = .ok (.ldc2_w 142, 3) := by decide +kernel
theorem dX6_drift_6 : decode cX6_drift 6 = .ok (.invokestatic 47, 3) := by decide +kernel
theorem dX6_drift_9 : decode cX6_drift 9 = .ok (.ifCond .ne 5, 3) := by decide +kernel
theorem dX6_drift_12 : decode cX6_drift 12 = .ok (.iconst (-1), 1) := by decide +kernel
theorem dX6_drift_13 : decode cX6_drift 13 = .ok (.ireturn, 1) := by decide +kernel
theorem dX6_drift_14 : decode cX6_drift 14 = .ok (.aload_n 0, 1) := by decide +kernel
theorem dX6_drift_15 : decode cX6_drift 15 = .ok (.getfield 7, 3) := by decide +kernel
theorem dX6_drift_18 : decode cX6_drift 18 = .ok (.iconst 1, 1) := by decide +kernel
theorem dX6_drift_19 : decode cX6_drift 19 = .ok (.iaload, 1) := by decide +kernel
theorem dX6_drift_20 : decode cX6_drift 20 = .ok (.iload_n 1, 1) := by decide +kernel
theorem dX6_drift_21 : decode cX6_drift 21 = .ok (.iadd, 1) := by decide +kernel
theorem dX6_drift_22 : decode cX6_drift 22 = .ok (.sipush 9999, 3) := by decide +kernel
theorem dX6_drift_25 : decode cX6_drift 25 = .ok (.if_icmp .le 6, 3) := by decide +kernel
theorem dX6_drift_28 : decode cX6_drift 28 = .ok (.bipush (-3), 2) := by decide +kernel
theorem dX6_drift_30 : decode cX6_drift 30 = .ok (.ireturn, 1) := by decide +kernel
theorem dX6_drift_31 : decode cX6_drift 31 = .ok (.iconst 0, 1) := by decide +kernel
theorem dX6_drift_32 : decode cX6_drift 32 = .ok (.istore_n 2, 1) := by decide +kernel
theorem dX6_drift_33 : decode cX6_drift 33 = .ok (.iload_n 2, 1) := by decide +kernel
theorem dX6_drift_34 : decode cX6_drift 34 = .ok (.iload_n 1, 1) := by decide +kernel
theorem dX6_drift_35 : decode cX6_drift 35 = .ok (.if_icmp .ge 88, 3) := by decide +kernel
theorem dX6_drift_38 : decode cX6_drift 38 = .ok (.aload_n 0, 1) := by decide +kernel
theorem dX6_drift_39 : decode cX6_drift 39 = .ok (.invokevirtual 144, 3) := by decide +kernel
theorem dX6_drift_42 : decode cX6_drift 42 = .ok (.aload_n 0, 1) := by decide +kernel
theorem dX6_drift_43 : decode cX6_drift 43 = .ok (.invokevirtual 147, 3) := by decide +kernel
theorem dX6_drift_46 : decode cX6_drift 46 = .ok (.aload_n 0, 1) := by decide +kernel
theorem dX6_drift_47 : decode cX6_drift 47 = .ok (.getfield 7, 3) := by decide +kernel
theorem dX6_drift_50 : decode cX6_drift 50 = .ok (.iconst 4, 1) := by decide +kernel
theorem dX6_drift_51 : decode cX6_drift 51 = .ok (.aload_n 0, 1) := by decide +kernel
theorem dX6_drift_52 : decode cX6_drift 52 = .ok (.getfield 7, 3) := by decide +kernel
theorem dX6_drift_55 : decode cX6_drift 55 = .ok (.iconst 4, 1) := by decide +kernel
theorem dX6_drift_56 : decode cX6_drift 56 = .ok (.iaload, 1) := by decide +kernel
theorem dX6_drift_57 : decode cX6_drift 57 = .ok (.i2l, 1) := by decide +kernel
theorem dX6_drift_58 : decode cX6_drift 58 = .ok (.ldc2_w 156, 3) := by decide +kernel
theorem dX6_drift_61 : decode cX6_drift 61 = .ok (.lmul, 1) := by decide +kernel
theorem dX6_drift_62 : decode cX6_drift 62 = .ok (.ldc2_w 158, 3) := by decide +kernel
theorem dX6_drift_65 : decode cX6_drift 65 = .ok (.ladd, 1) := by decide +kernel
theorem dX6_drift_66 : decode cX6_drift 66 = .ok (.ldc2_w 160, 3) := by decide +kernel
theorem dX6_drift_69 : decode cX6_drift 69 = .ok (.land, 1) := by decide +kernel
theorem dX6_drift_70 : decode cX6_drift 70 = .ok (.l2i, 1) := by decide +kernel
theorem dX6_drift_71 : decode cX6_drift 71 = .ok (.iastore, 1) := by decide +kernel
theorem dX6_drift_72 : decode cX6_drift 72 = .ok (.aload_n 0, 1) := by decide +kernel
theorem dX6_drift_73 : decode cX6_drift 73 = .ok (.getfield 7, 3) := by decide +kernel
theorem dX6_drift_76 : decode cX6_drift 76 = .ok (.iconst 4, 1) := by decide +kernel
theorem dX6_drift_77 : decode cX6_drift 77 = .ok (.iaload, 1) := by decide +kernel
theorem dX6_drift_78 : decode cX6_drift 78 = .ok (.ldc 162, 2) := by decide +kernel
theorem dX6_drift_80 : decode cX6_drift 80 = .ok (.idiv, 1) := by decide +kernel
theorem dX6_drift_81 : decode cX6_drift 81 = .ok (.iconst 5, 1) := by decide +kernel
theorem dX6_drift_82 : decode cX6_drift 82 = .ok (.irem, 1) := by decide +kernel
theorem dX6_drift_83 : decode cX6_drift 83 = .ok (.ifCond .ne 34, 3) := by decide +kernel
theorem dX6_drift_86 : decode cX6_drift 86 = .ok (.aload_n 0, 1) := by decide +kernel
theorem dX6_drift_87 : decode cX6_drift 87 = .ok (.aload_n 0, 1) := by decide +kernel
theorem dX6_drift_88 : decode cX6_drift 88 = .ok (.getfield 7, 3) := by decide +kernel
theorem dX6_drift_91 : decode cX6_drift 91 = .ok (.iconst 4, 1) := by decide +kernel
theorem dX6_drift_92 : decode cX6_drift 92 = .ok (.iaload, 1) := by decide +kernel
theorem dX6_drift_93 : decode cX6_drift 93 = .ok (.sipush 128, 3) := by decide +kernel
theorem dX6_drift_96 : decode cX6_drift 96 = .ok (.idiv, 1) := by decide +kernel
theorem dX6_drift_97 : decode cX6_drift 97 = .ok (.bipush 10, 2) := by decide +kernel
theorem dX6_drift_99 : decode cX6_drift 99 = .ok (.irem, 1) := by decide +kernel
theorem dX6_drift_100 : decode cX6_drift 100 = .ok (.aload_n 0, 1) := by decide +kernel
theorem dX6_drift_101 : decode cX6_drift 101 = .ok (.getfield 7, 3) := by decide +kernel
theorem dX6_drift_104 : decode cX6_drift 104 = .ok (.iconst 4, 1) := by decide +kernel
theorem dX6_drift_105 : decode cX6_drift 105 = .ok (.iaload, 1) := by decide +kernel
theorem dX6_drift_106 : decode cX6_drift 106 = .ok (.sipush 1024, 3) := by decide +kernel
theorem dX6_drift_109 : decode cX6_drift 109 = .ok (.idiv, 1) := by decide +kernel
theorem dX6_drift_110 : decode cX6_drift 110 = .ok (.bipush 20, 2) := by decide +kernel
theorem dX6_drift_112 : decode cX6_drift 112 = .ok (.irem, 1) := by decide +kernel
theorem dX6_drift_113 : decode cX6_drift 113 = .ok (.invokevirtual 153, 3) := by decide +kernel
theorem dX6_drift_116 : decode cX6_drift 116 = .ok (.pop, 1) := by decide +kernel
theorem dX6_drift_117 : decode cX6_drift 117 = .ok (.iinc 2 1, 3) := by decide +kernel
theorem dX6_drift_120 : decode cX6_drift 120 = .ok (.goto (-87), 3) := by decide +kernel
theorem dX6_drift_123 : decode cX6_drift 123 = .ok (.aload_n 0, 1) := by decide +kernel
theorem dX6_drift_124 : decode cX6_drift 124 = .ok (.invokevirtual 98, 3) := by decide +kernel
theorem dX6_drift_127 : decode cX6_drift 127 = .ok (.ireturn, 1) := by decide +kernel
theorem dX6_undo_0 : decode cX6_undo 0 = .ok (.aload_n 0, 1) := by decide +kernel
theorem dX6_undo_1 : decode cX6_undo 1 = .ok (.getfield 81, 3) := by decide +kernel
theorem dX6_undo_4 : decode cX6_undo 4 = .ok (.ifCond .ne 6, 3) := by decide +kernel
theorem dX6_undo_7 : decode cX6_undo 7 = .ok (.bipush (-4), 2) := by decide +kernel
theorem dX6_undo_9 : decode cX6_undo 9 = .ok (.ireturn, 1) := by decide +kernel
theorem dX6_undo_10 : decode cX6_undo 10 = .ok (.aload_n 0, 1) := by decide +kernel
theorem dX6_undo_11 : decode cX6_undo 11 = .ok (.dup, 1) := by decide +kernel
theorem dX6_undo_12 : decode cX6_undo 12 = .ok (.getfield 81, 3) := by decide +kernel
theorem dX6_undo_15 : decode cX6_undo 15 = .ok (.iconst 1, 1) := by decide +kernel
theorem dX6_undo_16 : decode cX6_undo 16 = .ok (.isub, 1) := by decide +kernel
theorem dX6_undo_17 : decode cX6_undo 17 = .ok (.putfield 81, 3) := by decide +kernel
theorem dX6_undo_20 : decode cX6_undo 20 = .ok (.bipush 14, 2) := by decide +kernel
theorem dX6_undo_22 : decode cX6_undo 22 = .ok (.aload_n 0, 1) := by decide +kernel
theorem dX6_undo_23 : decode cX6_undo 23 = .ok (.getfield 81, 3) := by decide +kernel
theorem dX6_undo_26 : decode cX6_undo 26 = .ok (.imul, 1) := by decide +kernel
theorem dX6_undo_27 : decode cX6_undo 27 = .ok (.istore_n 1, 1) := by decide +kernel
theorem dX6_undo_28 : decode cX6_undo 28 = .ok (.aload_n 0, 1) := by decide +kernel
theorem dX6_undo_29 : decode cX6_undo 29 = .ok (.getfield 7, 3) := by decide +kernel
theorem dX6_undo_32 : decode cX6_undo 32 = .ok (.iconst 1, 1) := by decide +kernel
theorem dX6_undo_33 : decode cX6_undo 33 = .ok (.aload_n 0, 1) := by decide +kernel
theorem dX6_undo_34 : decode cX6_undo 34 = .ok (.getfield 22, 3) := by decide +kernel
theorem dX6_undo_37 : decode cX6_undo 37 = .ok (.iload_n 1, 1) := by decide +kernel
theorem dX6_undo_38 : decode cX6_undo 38 = .ok (.iaload, 1) := by decide +kernel
theorem dX6_undo_39 : decode cX6_undo 39 = .ok (.iastore, 1) := by decide +kernel
theorem dX6_undo_40 : decode cX6_undo 40 = .ok (.aload_n 0, 1) := by decide +kernel
theorem dX6_undo_41 : decode cX6_undo 41 = .ok (.getfield 7, 3) := by decide +kernel
theorem dX6_undo_44 : decode cX6_undo 44 = .ok (.iconst 4, 1) := by decide +kernel
theorem dX6_undo_45 : decode cX6_undo 45 = .ok (.aload_n 0, 1) := by decide +kernel
theorem dX6_undo_46 : decode cX6_undo 46 = .ok (.getfield 22, 3) := by decide +kernel
theorem dX6_undo_49 : decode cX6_undo 49 = .ok (.iload_n 1, 1) := by decide +kernel
theorem dX6_undo_50 : decode cX6_undo 50 = .ok (.iconst 1, 1) := by decide +kernel
theorem dX6_undo_51 : decode cX6_undo 51 = .ok (.iadd, 1) := by decide +kernel
theorem dX6_undo_52 : decode cX6_undo 52 = .ok (.iaload, 1) := by decide +kernel
theorem dX6_undo_53 : decode cX6_undo 53 = .ok (.iastore, 1) := by decide +kernel
theorem dX6_undo_54 : decode cX6_undo 54 = .ok (.iconst 0, 1) := by decide +kernel
theorem dX6_undo_55 : decode cX6_undo 55 = .ok (.istore_n 2, 1) := by decide +kernel
theorem dX6_undo_56 : decode cX6_undo 56 = .ok (.iload_n 2, 1) := by decide +kernel
theorem dX6_undo_57 : decode cX6_undo 57 = .ok (.bipush 6, 2) := by decide +kernel
theorem dX6_undo_59 : decode cX6_undo 59 = .ok (.if_icmp .ge 54, 3) := by decide +kernel
theorem dX6_undo_62 : decode cX6_undo 62 = .ok (.aload_n 0, 1) := by decide +kernel
theorem dX6_undo_63 : decode cX6_undo 63 = .ok (.getfield 7, 3) := by decide +kernel
theorem dX6_undo_66 : decode cX6_undo 66 = .ok (.iconst 5, 1) := by decide +kernel
theorem dX6_undo_67 : decode cX6_undo 67 = .ok (.iconst 5, 1) := by decide +kernel
theorem dX6_undo_68 : decode cX6_undo 68 = .ok (.iload_n 2, 1) := by decide +kernel
theorem dX6_undo_69 : decode cX6_undo 69 = .ok (.imul, 1) := by decide +kernel
theorem dX6_undo_70 : decode cX6_undo 70 = .ok (.iadd, 1) := by decide +kernel
theorem dX6_undo_71 : decode cX6_undo 71 = .ok (.iconst 3, 1) := by decide +kernel
theorem dX6_undo_72 : decode cX6_undo 72 = .ok (.iadd, 1) := by decide +kernel
theorem dX6_undo_73 : decode cX6_undo 73 = .ok (.aload_n 0, 1) := by decide +kernel
theorem dX6_undo_74 : decode cX6_undo 74 = .ok (.getfield 22, 3) := by decide +kernel
theorem dX6_undo_77 : decode cX6_undo 77 = .ok (.iload_n 1, 1) := by decide +kernel
theorem dX6_undo_78 : decode cX6_undo 78 = .ok (.iconst 2, 1) := by decide +kernel
theorem dX6_undo_79 : decode cX6_undo 79 = .ok (.iadd, 1) := by decide +kernel
theorem dX6_undo_80 : decode cX6_undo 80 = .ok (.iload_n 2, 1) := by decide +kernel
theorem dX6_undo_81 : decode cX6_undo 81 = .ok (.iadd, 1) := by decide +kernel
theorem dX6_undo_82 : decode cX6_undo 82 = .ok (.iaload, 1) := by decide +kernel
theorem dX6_undo_83 : decode cX6_undo 83 = .ok (.iastore, 1) := by decide +kernel
theorem dX6_undo_84 : decode cX6_undo 84 = .ok (.aload_n 0, 1) := by decide +kernel
theorem dX6_undo_85 : decode cX6_undo 85 = .ok (.getfield 7, 3) := by decide +kernel
theorem dX6_undo_88 : decode cX6_undo 88 = .ok (.iconst 5, 1) := by decide +kernel
theorem dX6_undo_89 : decode cX6_undo 89 = .ok (.iconst 5, 1) := by decide +kernel
theorem dX6_undo_90 : decode cX6_undo 90 = .ok (.iload_n 2, 1) := by decide +kernel
theorem dX6_undo_91 : decode cX6_undo 91 = .ok (.imul, 1) := by decide +kernel
theorem dX6_undo_92 : decode cX6_undo 92 = .ok (.iadd, 1) := by decide +kernel
theorem dX6_undo_93 : decode cX6_undo 93 = .ok (.iconst 4, 1) := by decide +kernel
theorem dX6_undo_94 : decode cX6_undo 94 = .ok (.iadd, 1) := by decide +kernel
theorem dX6_undo_95 : decode cX6_undo 95 = .ok (.aload_n 0, 1) := by decide +kernel
theorem dX6_undo_96 : decode cX6_undo 96 = .ok (.getfield 22, 3) := by decide +kernel
theorem dX6_undo_99 : decode cX6_undo 99 = .ok (.iload_n 1, 1) := by decide +kernel
theorem dX6_undo_100 : decode cX6_undo 100 = .ok (.bipush 8, 2) := by decide +kernel
theorem dX6_undo_102 : decode cX6_undo 102 = .ok (.iadd, 1) := by decide +kernel
theorem dX6_undo_103 : decode cX6_undo 103 = .ok (.iload_n 2, 1) := by decide +kernel
theorem dX6_undo_104 : decode cX6_undo 104 = .ok (.iadd, 1) := by decide +kernel
theorem dX6_undo_105 : decode cX6_undo 105 = .ok (.iaload, 1) := by decide +kernel
theorem dX6_undo_106 : decode cX6_undo 106 = .ok (.iastore, 1) := by decide +kernel
theorem dX6_undo_107 : decode cX6_undo 107 = .ok (.iinc 2 1, 3) := by decide +kernel
theorem dX6_undo_110 : decode cX6_undo 110 = .ok (.goto (-54), 3) := by decide +kernel
theorem dX6_undo_113 : decode cX6_undo 113 = .ok (.aload_n 0, 1) := by decide +kernel
theorem dX6_undo_114 : decode cX6_undo 114 = .ok (.getfield 81, 3) := by decide +kernel
theorem dX6_undo_117 : decode cX6_undo 117 = .ok (.ireturn, 1) := by decide +kernel
theorem dX6_seed_0 : decode cX6_seed 0 = .ok (.iload_n 1, 1) := by decide +kernel
theorem dX6_seed_1 : decode cX6_seed 1 = .ok (.ifCond .ge 5, 3) := by decide +kernel
theorem dX6_seed_4 : decode cX6_seed 4 = .ok (.iconst (-1), 1) := by decide +kernel
theorem dX6_seed_5 : decode cX6_seed 5 = .ok (.ireturn, 1) := by decide +kernel
theorem dX6_seed_6 : decode cX6_seed 6 = .ok (.aload_n 0, 1) := by decide +kernel
theorem dX6_seed_7 : decode cX6_seed 7 = .ok (.getfield 7, 3) := by decide +kernel
theorem dX6_seed_10 : decode cX6_seed 10 = .ok (.iconst 4, 1) := by decide +kernel
theorem dX6_seed_11 : decode cX6_seed 11 = .ok (.iaload, 1) := by decide +kernel
theorem dX6_seed_12 : decode cX6_seed 12 = .ok (.istore_n 2, 1) := by decide +kernel
theorem dX6_seed_13 : decode cX6_seed 13 = .ok (.aload_n 0, 1) := by decide +kernel
theorem dX6_seed_14 : decode cX6_seed 14 = .ok (.getfield 7, 3) := by decide +kernel
theorem dX6_seed_17 : decode cX6_seed 17 = .ok (.iconst 4, 1) := by decide +kernel
theorem dX6_seed_18 : decode cX6_seed 18 = .ok (.iload_n 1, 1) := by decide +kernel
theorem dX6_seed_19 : decode cX6_seed 19 = .ok (.iastore, 1) := by decide +kernel
theorem dX6_seed_20 : decode cX6_seed 20 = .ok (.iload_n 2, 1) := by decide +kernel
theorem dX6_seed_21 : decode cX6_seed 21 = .ok (.ireturn, 1) := by decide +kernel
theorem dX6_asides_0 : decode cX6_asides 0 = .ok (.iconst 0, 1) := by decide +kernel
theorem dX6_asides_1 : decode cX6_asides 1 = .ok (.istore_n 1, 1) := by decide +kernel
theorem dX6_asides_2 : decode cX6_asides 2 = .ok (.iload_n 1, 1) := by decide +kernel
theorem dX6_asides_3 : decode cX6_asides 3 = .ok (.bipush 35, 2) := by decide +kernel
theorem dX6_asides_5 : decode cX6_asides 5 = .ok (.if_icmp .ge 21, 3) := by decide +kernel
theorem dX6_asides_8 : decode cX6_asides 8 = .ok (.aload_n 0, 1) := by decide +kernel
theorem dX6_asides_9 : decode cX6_asides 9 = .ok (.getfield 25, 3) := by decide +kernel
theorem dX6_asides_12 : decode cX6_asides 12 = .ok (.iload_n 1, 1) := by decide +kernel
theorem dX6_asides_13 : decode cX6_asides 13 = .ok (.aload_n 0, 1) := by decide +kernel
theorem dX6_asides_14 : decode cX6_asides 14 = .ok (.getfield 7, 3) := by decide +kernel
theorem dX6_asides_17 : decode cX6_asides 17 = .ok (.iload_n 1, 1) := by decide +kernel
theorem dX6_asides_18 : decode cX6_asides 18 = .ok (.iaload, 1) := by decide +kernel
theorem dX6_asides_19 : decode cX6_asides 19 = .ok (.iastore, 1) := by decide +kernel
theorem dX6_asides_20 : decode cX6_asides 20 = .ok (.iinc 1 1, 3) := by decide +kernel
theorem dX6_asides_23 : decode cX6_asides 23 = .ok (.goto (-21), 3) := by decide +kernel
theorem dX6_asides_26 : decode cX6_asides 26 = .ok (.return_, 1) := by decide +kernel
theorem dX6_backs_0 : decode cX6_backs 0 = .ok (.iconst 0, 1) := by decide +kernel
theorem dX6_backs_1 : decode cX6_backs 1 = .ok (.istore_n 1, 1) := by decide +kernel
theorem dX6_backs_2 : decode cX6_backs 2 = .ok (.iload_n 1, 1) := by decide +kernel
theorem dX6_backs_3 : decode cX6_backs 3 = .ok (.bipush 35, 2) := by decide +kernel
theorem dX6_backs_5 : decode cX6_backs 5 = .ok (.if_icmp .ge 21, 3) := by decide +kernel
theorem dX6_backs_8 : decode cX6_backs 8 = .ok (.aload_n 0, 1) := by decide +kernel
theorem dX6_backs_9 : decode cX6_backs 9 = .ok (.getfield 7, 3) := by decide +kernel
theorem dX6_backs_12 : decode cX6_backs 12 = .ok (.iload_n 1, 1) := by decide +kernel
theorem dX6_backs_13 : decode cX6_backs 13 = .ok (.aload_n 0, 1) := by decide +kernel
theorem dX6_backs_14 : decode cX6_backs 14 = .ok (.getfield 25, 3) := by decide +kernel
theorem dX6_backs_17 : decode cX6_backs 17 = .ok (.iload_n 1, 1) := by decide +kernel
theorem dX6_backs_18 : decode cX6_backs 18 = .ok (.iaload, 1) := by decide +kernel
theorem dX6_backs_19 : decode cX6_backs 19 = .ok (.iastore, 1) := by decide +kernel
theorem dX6_backs_20 : decode cX6_backs 20 = .ok (.iinc 1 1, 3) := by decide +kernel
theorem dX6_backs_23 : decode cX6_backs 23 = .ok (.goto (-21), 3) := by decide +kernel
theorem dX6_backs_26 : decode cX6_backs 26 = .ok (.return_, 1) := by decide +kernel
set_option maxRecDepth 20000 in
theorem ggX6_goesOn_X6_goesBy : GoodIn wsX6_goesOn wsX6_goesBy := goodIn_r _ [5, 6, 7, 8, 9, 4, 10, 11, 12, 13, 14, 15, 16, 17, 18, 19, 20, 21, 22, 23, 24, 25, 26, 27, 28, 29, 30, 31, 32, 33, 34, 35, 36, 37, 38] (by decide +kernel) (by decide +kernel)
set_option maxRecDepth 20000 in
theorem gX6_goesOn_X6_goesBy : GoodIn wsX6_goesOn (wsV RX6 147 RX6 yX6_goesBy wsX6_goesBy) := goodIn_app (goodIn_of _ (by decide +kernel)) ggX6_goesOn_X6_goesBy
theorem dX6_goesOn_0 : decode cX6_goesOn 0 = .ok (.iconst 0, 1) := by decide +kernel
theorem dX6_goesOn_1 : decode cX6_goesOn 1 = .ok (.istore_n 2, 1) := by decide +kernel
theorem dX6_goesOn_2 : decode cX6_goesOn 2 = .ok (.iload_n 2, 1) := by decide +kernel
theorem dX6_goesOn_3 : decode cX6_goesOn 3 = .ok (.iload_n 1, 1) := by decide +kernel
theorem dX6_goesOn_4 : decode cX6_goesOn 4 = .ok (.if_icmp .ge 13, 3) := by decide +kernel
theorem dX6_goesOn_7 : decode cX6_goesOn 7 = .ok (.aload_n 0, 1) := by decide +kernel
theorem dX6_goesOn_8 : decode cX6_goesOn 8 = .ok (.invokevirtual 147, 3) := by decide +kernel
theorem dX6_goesOn_11 : decode cX6_goesOn 11 = .ok (.iinc 2 1, 3) := by decide +kernel
theorem dX6_goesOn_14 : decode cX6_goesOn 14 = .ok (.goto (-12), 3) := by decide +kernel
theorem dX6_goesOn_17 : decode cX6_goesOn 17 = .ok (.return_, 1) := by decide +kernel
set_option maxRecDepth 20000 in
theorem ggX6_ahead_X6_isClerk : GoodIn wsX6_ahead wsX6_isClerk := goodIn_r _ [6, 7, 8, 9, 5, 10, 40, 41, 42, 43, 44, 45, 46, 47, 48, 49, 50, 51, 52, 53, 54, 55, 56, 57, 58, 59] (by decide +kernel) (by decide +kernel)
set_option maxRecDepth 20000 in
theorem gX6_ahead_X6_isClerk : GoodIn wsX6_ahead (wsV RX6 93 RX6 yX6_isClerk wsX6_isClerk) := goodIn_app (goodIn_of _ (by decide +kernel)) ggX6_ahead_X6_isClerk
set_option maxRecDepth 20000 in
theorem ggX6_ahead_X6_in : GoodIn wsX6_ahead wsX6_in := goodIn_r _ [10] (by decide +kernel) (by decide +kernel)
set_option maxRecDepth 20000 in
theorem gX6_ahead_X6_in : GoodIn wsX6_ahead (va_wsS RX6 47 yX6_in wsX6_in) := goodIn_app (goodIn_of _ (by decide +kernel)) ggX6_ahead_X6_in
set_option maxRecDepth 20000 in
theorem ggX6_ahead_X6_asides : GoodIn wsX6_ahead wsX6_asides := goodIn_r _ [14, 15, 7, 40, 41, 42, 43, 44, 45, 46, 47, 48, 49, 50, 51, 52, 53, 54, 55, 56, 57, 58, 59] (by decide +kernel) (by decide +kernel)
set_option maxRecDepth 20000 in
theorem gX6_ahead_X6_asides : GoodIn wsX6_ahead (wsV RX6 165 RX6 yX6_asides wsX6_asides) := goodIn_app (goodIn_of _ (by decide +kernel)) ggX6_ahead_X6_asides
set_option maxRecDepth 20000 in
theorem ggX6_ahead_X6_goesOn : GoodIn wsX6_ahead wsX6_goesOn := goodIn_r _ [19, 20, 21, 22, 5, 23, 7, 24, 25, 26, 27, 28, 29, 30, 31, 32, 33, 34, 35, 40, 41, 42, 43, 44, 45, 46, 47, 48, 49, 50, 51, 52, 53, 54, 55, 56, 57, 58, 59] (by decide +kernel) (by decide +kernel)
set_option maxRecDepth 20000 in
theorem gX6_ahead_X6_goesOn : GoodIn wsX6_ahead (wsV RX6 168 RX6 yX6_goesOn wsX6_goesOn) := goodIn_app (goodIn_of _ (by decide +kernel)) ggX6_ahead_X6_goesOn
set_option maxRecDepth 20000 in
theorem ggX6_ahead_X6_ash : GoodIn wsX6_ahead wsX6_ash := goodIn_r _ [35, 28, 29, 30, 5, 31, 7, 40, 41, 42, 43, 44, 45, 46, 47, 48, 49, 50, 51, 52, 53, 54, 55, 56, 57, 58, 59] (by decide +kernel) (by decide +kernel)
set_option maxRecDepth 20000 in
theorem gX6_ahead_X6_ash : GoodIn wsX6_ahead (wsV RX6 63 RX6 yX6_ash wsX6_ash) := goodIn_app (goodIn_of _ (by decide +kernel)) ggX6_ahead_X6_ash
set_option maxRecDepth 20000 in
theorem ggX6_ahead_X6_backs : GoodIn wsX6_ahead wsX6_backs := goodIn_r _ [39, 7, 15, 40, 41, 42, 43, 44, 45, 46, 47, 48, 49, 50, 51, 52, 53, 54, 55, 56, 57, 58, 59] (by decide +kernel) (by decide +kernel)
set_option maxRecDepth 20000 in
theorem gX6_ahead_X6_backs : GoodIn wsX6_ahead (wsV RX6 172 RX6 yX6_backs wsX6_backs) := goodIn_app (goodIn_of _ (by decide +kernel)) ggX6_ahead_X6_backs
theorem dX6_ahead_0 : decode cX6_ahead 0 = .ok (.aload_n 0, 1) := by decide +kernel
theorem dX6_ahead_1 : decode cX6_ahead 1 = .ok (.iload_n 1, 1) := by decide +kernel
theorem dX6_ahead_2 : decode cX6_ahead 2 = .ok (.invokevirtual 93, 3) := by decide +kernel
theorem dX6_ahead_5 : decode cX6_ahead 5 = .ok (.ifCond .eq 15, 3) := by decide +kernel
theorem dX6_ahead_8 : decode cX6_ahead 8 = .ok (.iload_n 2, 1) := by decide +kernel
theorem dX6_ahead_9 : decode cX6_ahead 9 = .ok (.i2l, 1) := by decide +kernel
theorem dX6_ahead_10 : decode cX6_ahead 10 = .ok (.lconst 0, 1) := by decide +kernel
theorem dX6_ahead_11 : decode cX6_ahead 11 = .ok (.ldc2_w 163, 3) := by decide +kernel
theorem dX6_ahead_14 : decode cX6_ahead 14 = .ok (.invokestatic 47, 3) := by decide +kernel
theorem dX6_ahead_17 : decode cX6_ahead 17 = .ok (.ifCond .ne 5, 3) := by decide +kernel
theorem dX6_ahead_20 : decode cX6_ahead 20 = .ok (.iconst (-1), 1) := by decide +kernel
theorem dX6_ahead_21 : decode cX6_ahead 21 = .ok (.ireturn, 1) := by decide +kernel
theorem dX6_ahead_22 : decode cX6_ahead 22 = .ok (.aload_n 0, 1) := by decide +kernel
theorem dX6_ahead_23 : decode cX6_ahead 23 = .ok (.invokevirtual 165, 3) := by decide +kernel
theorem dX6_ahead_26 : decode cX6_ahead 26 = .ok (.aload_n 0, 1) := by decide +kernel
theorem dX6_ahead_27 : decode cX6_ahead 27 = .ok (.iload_n 2, 1) := by decide +kernel
theorem dX6_ahead_28 : decode cX6_ahead 28 = .ok (.invokevirtual 168, 3) := by decide +kernel
theorem dX6_ahead_31 : decode cX6_ahead 31 = .ok (.aload_n 0, 1) := by decide +kernel
theorem dX6_ahead_32 : decode cX6_ahead 32 = .ok (.iload_n 1, 1) := by decide +kernel
theorem dX6_ahead_33 : decode cX6_ahead 33 = .ok (.invokevirtual 63, 3) := by decide +kernel
theorem dX6_ahead_36 : decode cX6_ahead 36 = .ok (.istore_n 3, 1) := by decide +kernel
theorem dX6_ahead_37 : decode cX6_ahead 37 = .ok (.aload_n 0, 1) := by decide +kernel
theorem dX6_ahead_38 : decode cX6_ahead 38 = .ok (.invokevirtual 172, 3) := by decide +kernel
theorem dX6_ahead_41 : decode cX6_ahead 41 = .ok (.iload_n 3, 1) := by decide +kernel
theorem dX6_ahead_42 : decode cX6_ahead 42 = .ok (.ireturn, 1) := by decide +kernel
set_option maxRecDepth 20000 in
theorem ggX6_pay_X6_in : GoodIn wsX6_pay wsX6_in := goodIn_r _ [5] (by decide +kernel) (by decide +kernel)
set_option maxRecDepth 20000 in
theorem gX6_pay_X6_in : GoodIn wsX6_pay (va_wsS RX6 47 yX6_in wsX6_in) := goodIn_app (goodIn_of _ (by decide +kernel)) ggX6_pay_X6_in
set_option maxRecDepth 20000 in
theorem ggX6_pay_X6_asides : GoodIn wsX6_pay wsX6_asides := goodIn_r _ [9, 10, 11, 44, 45, 46, 47, 48, 49, 50, 51, 52, 53, 54, 55, 56, 57, 58, 59, 60, 61, 62, 63] (by decide +kernel) (by decide +kernel)
set_option maxRecDepth 20000 in
theorem gX6_pay_X6_asides : GoodIn wsX6_pay (wsV RX6 165 RX6 yX6_asides wsX6_asides) := goodIn_app (goodIn_of _ (by decide +kernel)) ggX6_pay_X6_asides
set_option maxRecDepth 20000 in
theorem ggX6_pay_X6_goesOn : GoodIn wsX6_pay wsX6_goesOn := goodIn_r _ [15, 16, 17, 18, 4, 19, 11, 20, 21, 22, 23, 24, 25, 26, 27, 28, 29, 30, 31, 44, 45, 46, 47, 48, 49, 50, 51, 52, 53, 54, 55, 56, 57, 58, 59, 60, 61, 62, 63] (by decide +kernel) (by decide +kernel)
set_option maxRecDepth 20000 in
theorem gX6_pay_X6_goesOn : GoodIn wsX6_pay (wsV RX6 168 RX6 yX6_goesOn wsX6_goesOn) := goodIn_app (goodIn_of _ (by decide +kernel)) ggX6_pay_X6_goesOn
set_option maxRecDepth 20000 in
theorem ggX6_pay_X6_payOfAll : GoodIn wsX6_pay wsX6_payOfAll := goodIn_r _ [35, 11, 36, 37, 38, 4, 39, 28, 29, 30, 31, 24, 25, 26, 27, 44, 45, 46, 47, 48, 49, 50, 51, 52, 53, 54, 55, 56, 57, 58, 59, 60, 61, 62, 63] (by decide +kernel) (by decide +kernel)
set_option maxRecDepth 20000 in
theorem gX6_pay_X6_payOfAll : GoodIn wsX6_pay (wsV RX6 98 RX6 yX6_payOfAll wsX6_payOfAll) := goodIn_app (goodIn_of _ (by decide +kernel)) ggX6_pay_X6_payOfAll
set_option maxRecDepth 20000 in
theorem ggX6_pay_X6_backs : GoodIn wsX6_pay wsX6_backs := goodIn_r _ [43, 11, 10, 44, 45, 46, 47, 48, 49, 50, 51, 52, 53, 54, 55, 56, 57, 58, 59, 60, 61, 62, 63] (by decide +kernel) (by decide +kernel)
set_option maxRecDepth 20000 in
theorem gX6_pay_X6_backs : GoodIn wsX6_pay (wsV RX6 172 RX6 yX6_backs wsX6_backs) := goodIn_app (goodIn_of _ (by decide +kernel)) ggX6_pay_X6_backs
theorem dX6_pay_0 : decode cX6_pay 0 = .ok (.iload_n 1, 1) := by decide +kernel
theorem dX6_pay_1 : decode cX6_pay 1 = .ok (.i2l, 1) := by decide +kernel
theorem dX6_pay_2 : decode cX6_pay 2 = .ok (.lconst 0, 1) := by decide +kernel
theorem dX6_pay_3 : decode cX6_pay 3 = .ok (.ldc2_w 163, 3) := by decide +kernel
theorem dX6_pay_6 : decode cX6_pay 6 = .ok (.invokestatic 47, 3) := by decide +kernel
theorem dX6_pay_9 : decode cX6_pay 9 = .ok (.ifCond .ne 5, 3) := by decide +kernel
theorem dX6_pay_12 : decode cX6_pay 12 = .ok (.iconst (-1), 1) := by decide +kernel
theorem dX6_pay_13 : decode cX6_pay 13 = .ok (.ireturn, 1) := by decide +kernel
theorem dX6_pay_14 : decode cX6_pay 14 = .ok (.aload_n 0, 1) := by decide +kernel
theorem dX6_pay_15 : decode cX6_pay 15 = .ok (.invokevirtual 165, 3) := by decide +kernel
theorem dX6_pay_18 : decode cX6_pay 18 = .ok (.aload_n 0, 1) := by decide +kernel
theorem dX6_pay_19 : decode cX6_pay 19 = .ok (.iload_n 1, 1) := by decide +kernel
theorem dX6_pay_20 : decode cX6_pay 20 = .ok (.invokevirtual 168, 3) := by decide +kernel
theorem dX6_pay_23 : decode cX6_pay 23 = .ok (.aload_n 0, 1) := by decide +kernel
theorem dX6_pay_24 : decode cX6_pay 24 = .ok (.invokevirtual 98, 3) := by decide +kernel
theorem dX6_pay_27 : decode cX6_pay 27 = .ok (.istore_n 2, 1) := by decide +kernel
theorem dX6_pay_28 : decode cX6_pay 28 = .ok (.aload_n 0, 1) := by decide +kernel
theorem dX6_pay_29 : decode cX6_pay 29 = .ok (.invokevirtual 172, 3) := by decide +kernel
theorem dX6_pay_32 : decode cX6_pay 32 = .ok (.iload_n 2, 1) := by decide +kernel
theorem dX6_pay_33 : decode cX6_pay 33 = .ok (.ireturn, 1) := by decide +kernel
set_option maxRecDepth 20000 in
theorem ggX6_costs_X6_payOfAll : GoodIn wsX6_costs wsX6_payOfAll := goodIn_r _ [6, 7, 8, 9, 10, 5, 11, 12, 13, 14, 15, 16, 17, 18, 19, 43, 44, 45, 46, 47, 48, 49, 50, 51, 52, 53, 54, 55, 56, 57, 58, 59, 60, 61, 62] (by decide +kernel) (by decide +kernel)
set_option maxRecDepth 20000 in
theorem gX6_costs_X6_payOfAll : GoodIn wsX6_costs (wsV RX6 98 RX6 yX6_payOfAll wsX6_payOfAll) := goodIn_app (goodIn_of _ (by decide +kernel)) ggX6_costs_X6_payOfAll
set_option maxRecDepth 20000 in
theorem ggX6_costs_X6_shakes : GoodIn wsX6_costs wsX6_shakes := goodIn_r _ [23, 24, 25, 7, 26, 27, 28, 5, 29, 16, 17, 18, 19, 12, 13, 14, 15, 30, 31, 32, 33, 34, 35, 36, 37, 43, 44, 45, 46, 47, 48, 49, 50, 51, 52, 53, 54, 55, 56, 57, 58, 59, 60, 61, 62] (by decide +kernel) (by decide +kernel)
set_option maxRecDepth 20000 in
theorem gX6_costs_X6_shakes : GoodIn wsX6_costs (wsV RX6 153 RX6 yX6_shakes wsX6_shakes) := goodIn_app (goodIn_of _ (by decide +kernel)) ggX6_costs_X6_shakes
set_option maxRecDepth 20000 in
theorem ggX6_costs_X6_backs : GoodIn wsX6_costs wsX6_backs := goodIn_r _ [41, 7, 42, 43, 44, 45, 46, 47, 48, 49, 50, 51, 52, 53, 54, 55, 56, 57, 58, 59, 60, 61, 62] (by decide +kernel) (by decide +kernel)
set_option maxRecDepth 20000 in
theorem gX6_costs_X6_backs : GoodIn wsX6_costs (wsV RX6 172 RX6 yX6_backs wsX6_backs) := goodIn_app (goodIn_of _ (by decide +kernel)) ggX6_costs_X6_backs
theorem dX6_costs_0 : decode cX6_costs 0 = .ok (.aload_n 0, 1) := by decide +kernel
theorem dX6_costs_1 : decode cX6_costs 1 = .ok (.invokevirtual 98, 3) := by decide +kernel
theorem dX6_costs_4 : decode cX6_costs 4 = .ok (.istore_n 3, 1) := by decide +kernel
theorem dX6_costs_5 : decode cX6_costs 5 = .ok (.aload_n 0, 1) := by decide +kernel
theorem dX6_costs_6 : decode cX6_costs 6 = .ok (.aload_n 0, 1) := by decide +kernel
theorem dX6_costs_7 : decode cX6_costs 7 = .ok (.iload_n 1, 1) := by decide +kernel
theorem dX6_costs_8 : decode cX6_costs 8 = .ok (.iload_n 2, 1) := by decide +kernel
theorem dX6_costs_9 : decode cX6_costs 9 = .ok (.invokevirtual 153, 3) := by decide +kernel
theorem dX6_costs_12 : decode cX6_costs 12 = .ok (.putfield 175, 3) := by decide +kernel
theorem dX6_costs_15 : decode cX6_costs 15 = .ok (.iload_n 3, 1) := by decide +kernel
theorem dX6_costs_16 : decode cX6_costs 16 = .ok (.aload_n 0, 1) := by decide +kernel
theorem dX6_costs_17 : decode cX6_costs 17 = .ok (.invokevirtual 98, 3) := by decide +kernel
theorem dX6_costs_20 : decode cX6_costs 20 = .ok (.isub, 1) := by decide +kernel
theorem dX6_costs_21 : decode cX6_costs 21 = .ok (.istore 4, 2) := by decide +kernel
theorem dX6_costs_23 : decode cX6_costs 23 = .ok (.aload_n 0, 1) := by decide +kernel
theorem dX6_costs_24 : decode cX6_costs 24 = .ok (.invokevirtual 172, 3) := by decide +kernel
theorem dX6_costs_27 : decode cX6_costs 27 = .ok (.iload 4, 2) := by decide +kernel
theorem dX6_costs_29 : decode cX6_costs 29 = .ok (.ireturn, 1) := by decide +kernel
set_option maxRecDepth 20000 in
theorem ggX6_falls_X6_isDesk : GoodIn wsX6_falls wsX6_isDesk := goodIn_r _ [5, 6, 7, 8, 4, 9] (by decide +kernel) (by decide +kernel)
set_option maxRecDepth 20000 in
theorem gX6_falls_X6_isDesk : GoodIn wsX6_falls (va_wsS RX6 86 yX6_isDesk wsX6_isDesk) := goodIn_app (goodIn_of _ (by decide +kernel)) ggX6_falls_X6_isDesk
set_option maxRecDepth 20000 in
theorem ggX6_falls_X6_isForce : GoodIn wsX6_falls wsX6_isForce := goodIn_r _ [12, 13, 7, 8, 4, 9] (by decide +kernel) (by decide +kernel)
set_option maxRecDepth 20000 in
theorem gX6_falls_X6_isForce : GoodIn wsX6_falls (va_wsS RX6 150 yX6_isForce wsX6_isForce) := goodIn_app (goodIn_of _ (by decide +kernel)) ggX6_falls_X6_isForce
set_option maxRecDepth 20000 in
theorem ggX6_falls_X6_in : GoodIn wsX6_falls wsX6_in := goodIn_r _ [9] (by decide +kernel) (by decide +kernel)
set_option maxRecDepth 20000 in
theorem gX6_falls_X6_in : GoodIn wsX6_falls (va_wsS RX6 47 yX6_in wsX6_in) := goodIn_app (goodIn_of _ (by decide +kernel)) ggX6_falls_X6_in
set_option maxRecDepth 20000 in
theorem ggX6_falls_X6_asides : GoodIn wsX6_falls wsX6_asides := goodIn_r _ [17, 18, 19, 62, 63, 64, 65, 66, 67, 68, 69, 70, 71, 72, 73, 74, 75, 76, 77, 78, 79, 80, 81] (by decide +kernel) (by decide +kernel)
set_option maxRecDepth 20000 in
theorem gX6_falls_X6_asides : GoodIn wsX6_falls (wsV RX6 165 RX6 yX6_asides wsX6_asides) := goodIn_app (goodIn_of _ (by decide +kernel)) ggX6_falls_X6_asides
set_option maxRecDepth 20000 in
theorem ggX6_falls_X6_costs : GoodIn wsX6_falls wsX6_costs := goodIn_r _ [23, 1, 24, 25, 26, 4, 27, 19, 28, 29, 30, 31, 32, 33, 34, 35, 36, 37, 38, 39, 40, 41, 42, 43, 44, 45, 46, 47, 48, 49, 50, 51, 52, 53, 54, 55, 56, 57, 58, 59, 60, 61, 18, 62, 63, 64, 65, 66, 67, 68, 69, 70, 71, 72, 73, 74, 75, 76, 77, 78, 79, 80, 81] (by decide +kernel) (by decide +kernel)
set_option maxRecDepth 20000 in
theorem gX6_falls_X6_costs : GoodIn wsX6_falls (wsV RX6 178 RX6 yX6_costs wsX6_costs) := goodIn_app (goodIn_of _ (by decide +kernel)) ggX6_falls_X6_costs
theorem dX6_falls_0 : decode cX6_falls 0 = .ok (.iload_n 1, 1) := by decide +kernel
theorem dX6_falls_1 : decode cX6_falls 1 = .ok (.invokestatic 86, 3) := by decide +kernel
theorem dX6_falls_4 : decode cX6_falls 4 = .ok (.ifCond .eq 20, 3) := by decide +kernel
theorem dX6_falls_7 : decode cX6_falls 7 = .ok (.iload_n 2, 1) := by decide +kernel
theorem dX6_falls_8 : decode cX6_falls 8 = .ok (.invokestatic 150, 3) := by decide +kernel
theorem dX6_falls_11 : decode cX6_falls 11 = .ok (.ifCond .eq 13, 3) := by decide +kernel
theorem dX6_falls_14 : decode cX6_falls 14 = .ok (.iload_n 3, 1) := by decide +kernel
theorem dX6_falls_15 : decode cX6_falls 15 = .ok (.i2l, 1) := by decide +kernel
theorem dX6_falls_16 : decode cX6_falls 16 = .ok (.lconst 0, 1) := by decide +kernel
theorem dX6_falls_17 : decode cX6_falls 17 = .ok (.lconst 1, 1) := by decide +kernel
theorem dX6_falls_18 : decode cX6_falls 18 = .ok (.invokestatic 47, 3) := by decide +kernel
theorem dX6_falls_21 : decode cX6_falls 21 = .ok (.ifCond .ne 5, 3) := by decide +kernel
theorem dX6_falls_24 : decode cX6_falls 24 = .ok (.iconst (-1), 1) := by decide +kernel
theorem dX6_falls_25 : decode cX6_falls 25 = .ok (.ireturn, 1) := by decide +kernel
theorem dX6_falls_26 : decode cX6_falls 26 = .ok (.aload_n 0, 1) := by decide +kernel
theorem dX6_falls_27 : decode cX6_falls 27 = .ok (.invokevirtual 165, 3) := by decide +kernel
theorem dX6_falls_30 : decode cX6_falls 30 = .ok (.aload_n 0, 1) := by decide +kernel
theorem dX6_falls_31 : decode cX6_falls 31 = .ok (.iload_n 1, 1) := by decide +kernel
theorem dX6_falls_32 : decode cX6_falls 32 = .ok (.iload_n 2, 1) := by decide +kernel
theorem dX6_falls_33 : decode cX6_falls 33 = .ok (.invokevirtual 178, 3) := by decide +kernel
theorem dX6_falls_36 : decode cX6_falls 36 = .ok (.istore 4, 2) := by decide +kernel
theorem dX6_falls_38 : decode cX6_falls 38 = .ok (.iload_n 3, 1) := by decide +kernel
theorem dX6_falls_39 : decode cX6_falls 39 = .ok (.ifCond .ne 10, 3) := by decide +kernel
theorem dX6_falls_42 : decode cX6_falls 42 = .ok (.aload_n 0, 1) := by decide +kernel
theorem dX6_falls_43 : decode cX6_falls 43 = .ok (.getfield 175, 3) := by decide +kernel
theorem dX6_falls_46 : decode cX6_falls 46 = .ok (.goto 5, 3) := by decide +kernel
theorem dX6_falls_49 : decode cX6_falls 49 = .ok (.iload 4, 2) := by decide +kernel
theorem dX6_falls_51 : decode cX6_falls 51 = .ok (.ireturn, 1) := by decide +kernel
set_option maxRecDepth 20000 in
theorem ggX6_worst_X6_isForce : GoodIn wsX6_worst wsX6_isForce := goodIn_r _ [4, 5, 6, 7, 3, 8] (by decide +kernel) (by decide +kernel)
set_option maxRecDepth 20000 in
theorem gX6_worst_X6_isForce : GoodIn wsX6_worst (va_wsS RX6 150 yX6_isForce wsX6_isForce) := goodIn_app (goodIn_of _ (by decide +kernel)) ggX6_worst_X6_isForce
set_option maxRecDepth 20000 in
theorem ggX6_worst_X6_in : GoodIn wsX6_worst wsX6_in := goodIn_r _ [8] (by decide +kernel) (by decide +kernel)
set_option maxRecDepth 20000 in
theorem gX6_worst_X6_in : GoodIn wsX6_worst (va_wsS RX6 47 yX6_in wsX6_in) := goodIn_app (goodIn_of _ (by decide +kernel)) ggX6_worst_X6_in
set_option maxRecDepth 20000 in
theorem ggX6_worst_X6_asides : GoodIn wsX6_worst wsX6_asides := goodIn_r _ [12, 13, 14, 58, 59, 60, 61, 62, 63, 64, 65, 66, 67, 68, 69, 70, 71, 72, 73, 74, 75, 76, 77] (by decide +kernel) (by decide +kernel)
set_option maxRecDepth 20000 in
theorem gX6_worst_X6_asides : GoodIn wsX6_worst (wsV RX6 165 RX6 yX6_asides wsX6_asides) := goodIn_app (goodIn_of _ (by decide +kernel)) ggX6_worst_X6_asides
set_option maxRecDepth 20000 in
theorem ggX6_worst_X6_costs : GoodIn wsX6_worst wsX6_costs := goodIn_r _ [18, 19, 20, 21, 22, 3, 23, 14, 24, 25, 26, 27, 28, 29, 30, 31, 32, 33, 34, 35, 36, 37, 38, 39, 40, 41, 42, 43, 44, 45, 46, 47, 48, 49, 50, 51, 52, 53, 54, 55, 56, 57, 13, 58, 59, 60, 61, 62, 63, 64, 65, 66, 67, 68, 69, 70, 71, 72, 73, 74, 75, 76, 77] (by decide +kernel) (by decide +kernel)
set_option maxRecDepth 20000 in
theorem gX6_worst_X6_costs : GoodIn wsX6_worst (wsV RX6 178 RX6 yX6_costs wsX6_costs) := goodIn_app (goodIn_of _ (by decide +kernel)) ggX6_worst_X6_costs
theorem dX6_worst_0 : decode cX6_worst 0 = .ok (.iload_n 1, 1) := by decide +kernel
theorem dX6_worst_1 : decode cX6_worst 1 = .ok (.invokestatic 150, 3) := by decide +kernel
theorem dX6_worst_4 : decode cX6_worst 4 = .ok (.ifCond .eq 13, 3) := by decide +kernel
theorem dX6_worst_7 : decode cX6_worst 7 = .ok (.iload_n 2, 1) := by decide +kernel
theorem dX6_worst_8 : decode cX6_worst 8 = .ok (.i2l, 1) := by decide +kernel
theorem dX6_worst_9 : decode cX6_worst 9 = .ok (.lconst 0, 1) := by decide +kernel
theorem dX6_worst_10 : decode cX6_worst 10 = .ok (.lconst 1, 1) := by decide +kernel
theorem dX6_worst_11 : decode cX6_worst 11 = .ok (.invokestatic 47, 3) := by decide +kernel
theorem dX6_worst_14 : decode cX6_worst 14 = .ok (.ifCond .ne 5, 3) := by decide +kernel
theorem dX6_worst_17 : decode cX6_worst 17 = .ok (.iconst (-1), 1) := by decide +kernel
theorem dX6_worst_18 : decode cX6_worst 18 = .ok (.ireturn, 1) := by decide +kernel
theorem dX6_worst_19 : decode cX6_worst 19 = .ok (.iconst 0, 1) := by decide +kernel
theorem dX6_worst_20 : decode cX6_worst 20 = .ok (.istore_n 3, 1) := by decide +kernel
theorem dX6_worst_21 : decode cX6_worst 21 = .ok (.iconst (-1), 1) := by decide +kernel
theorem dX6_worst_22 : decode cX6_worst 22 = .ok (.istore 4, 2) := by decide +kernel
theorem dX6_worst_24 : decode cX6_worst 24 = .ok (.aload_n 0, 1) := by decide +kernel
theorem dX6_worst_25 : decode cX6_worst 25 = .ok (.invokevirtual 165, 3) := by decide +kernel
theorem dX6_worst_28 : decode cX6_worst 28 = .ok (.iconst 0, 1) := by decide +kernel
theorem dX6_worst_29 : decode cX6_worst 29 = .ok (.istore 5, 2) := by decide +kernel
theorem dX6_worst_31 : decode cX6_worst 31 = .ok (.iload 5, 2) := by decide +kernel
theorem dX6_worst_33 : decode cX6_worst 33 = .ok (.bipush 10, 2) := by decide +kernel
theorem dX6_worst_35 : decode cX6_worst 35 = .ok (.if_icmp .ge 48, 3) := by decide +kernel
theorem dX6_worst_38 : decode cX6_worst 38 = .ok (.aload_n 0, 1) := by decide +kernel
theorem dX6_worst_39 : decode cX6_worst 39 = .ok (.iload 5, 2) := by decide +kernel

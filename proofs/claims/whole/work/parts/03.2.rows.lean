theorem dX5_item_17 : decode cX5_item 17 = .ok (.getfield 42, 3) := by decide +kernel
theorem dX5_item_20 : decode cX5_item 20 = .ok (.iload_n 1, 1) := by decide +kernel
theorem dX5_item_21 : decode cX5_item 21 = .ok (.aaload, 1) := by decide +kernel
theorem dX5_item_22 : decode cX5_item 22 = .ok (.iload_n 2, 1) := by decide +kernel
theorem dX5_item_23 : decode cX5_item 23 = .ok (.iload_n 3, 1) := by decide +kernel
theorem dX5_item_24 : decode cX5_item 24 = .ok (.iconst 1, 1) := by decide +kernel
theorem dX5_item_25 : decode cX5_item 25 = .ok (.invokevirtual 208, 3) := by decide +kernel
theorem dX5_item_28 : decode cX5_item 28 = .ok (.istore 6, 2) := by decide +kernel
theorem dX5_item_30 : decode cX5_item 30 = .ok (.iload 6, 2) := by decide +kernel
theorem dX5_item_32 : decode cX5_item 32 = .ok (.ifCond .eq 6, 3) := by decide +kernel
theorem dX5_item_35 : decode cX5_item 35 = .ok (.iload 6, 2) := by decide +kernel
theorem dX5_item_37 : decode cX5_item 37 = .ok (.ireturn, 1) := by decide +kernel
theorem dX5_item_38 : decode cX5_item 38 = .ok (.aload_n 0, 1) := by decide +kernel
theorem dX5_item_39 : decode cX5_item 39 = .ok (.getfield 42, 3) := by decide +kernel
theorem dX5_item_42 : decode cX5_item 42 = .ok (.iload_n 1, 1) := by decide +kernel
theorem dX5_item_43 : decode cX5_item 43 = .ok (.aaload, 1) := by decide +kernel
theorem dX5_item_44 : decode cX5_item 44 = .ok (.iload_n 3, 1) := by decide +kernel
theorem dX5_item_45 : decode cX5_item 45 = .ok (.lload 4, 2) := by decide +kernel
theorem dX5_item_47 : decode cX5_item 47 = .ok (.invokevirtual 221, 3) := by decide +kernel
theorem dX5_item_50 : decode cX5_item 50 = .ok (.iconst 1, 1) := by decide +kernel
theorem dX5_item_51 : decode cX5_item 51 = .ok (.ireturn, 1) := by decide +kernel
set_option maxRecDepth 20000 in
theorem ggX5_copy_X5_isSheet : GoodIn wsX5_copy wsX5_isSheet := goodIn_r _ [12] (by decide +kernel) (by decide +kernel)
set_option maxRecDepth 20000 in
theorem gX5_copy_X5_isSheet : GoodIn wsX5_copy (va_wsS RX5 202 yX5_isSheet wsX5_isSheet) := goodIn_app (goodIn_of _ (by decide +kernel)) ggX5_copy_X5_isSheet
set_option maxRecDepth 20000 in
theorem ggX5_copy_X3_isOutside : GoodIn wsX5_copy wsX3_isOutside := goodIn_r _ [17, 18, 28, 29, 30, 31] (by decide +kernel) (by decide +kernel)
set_option maxRecDepth 20000 in
theorem gX5_copy_X3_isOutside : GoodIn wsX5_copy (wsV RX5 235 RX3 yX3_isOutside wsX3_isOutside) := goodIn_app (goodIn_of _ (by decide +kernel)) ggX5_copy_X3_isOutside
theorem dX5_copy_0 : decode cX5_copy 0 = .ok (.iload_n 1, 1) := by decide +kernel
theorem dX5_copy_1 : decode cX5_copy 1 = .ok (.invokestatic 202, 3) := by decide +kernel
theorem dX5_copy_4 : decode cX5_copy 4 = .ok (.ifCond .eq 10, 3) := by decide +kernel
theorem dX5_copy_7 : decode cX5_copy 7 = .ok (.iload_n 3, 1) := by decide +kernel
theorem dX5_copy_8 : decode cX5_copy 8 = .ok (.invokestatic 202, 3) := by decide +kernel
theorem dX5_copy_11 : decode cX5_copy 11 = .ok (.ifCond .ne 5, 3) := by decide +kernel
theorem dX5_copy_14 : decode cX5_copy 14 = .ok (.iconst (-1), 1) := by decide +kernel
theorem dX5_copy_15 : decode cX5_copy 15 = .ok (.ireturn, 1) := by decide +kernel
theorem dX5_copy_16 : decode cX5_copy 16 = .ok (.aload_n 0, 1) := by decide +kernel
theorem dX5_copy_17 : decode cX5_copy 17 = .ok (.getfield 42, 3) := by decide +kernel
theorem dX5_copy_20 : decode cX5_copy 20 = .ok (.iload_n 1, 1) := by decide +kernel
theorem dX5_copy_21 : decode cX5_copy 21 = .ok (.aaload, 1) := by decide +kernel
theorem dX5_copy_22 : decode cX5_copy 22 = .ok (.getfield 228, 3) := by decide +kernel
theorem dX5_copy_25 : decode cX5_copy 25 = .ok (.ifCond .eq 15, 3) := by decide +kernel
theorem dX5_copy_28 : decode cX5_copy 28 = .ok (.aload_n 0, 1) := by decide +kernel
theorem dX5_copy_29 : decode cX5_copy 29 = .ok (.getfield 42, 3) := by decide +kernel
theorem dX5_copy_32 : decode cX5_copy 32 = .ok (.iload_n 3, 1) := by decide +kernel
theorem dX5_copy_33 : decode cX5_copy 33 = .ok (.aaload, 1) := by decide +kernel
theorem dX5_copy_34 : decode cX5_copy 34 = .ok (.getfield 228, 3) := by decide +kernel
theorem dX5_copy_37 : decode cX5_copy 37 = .ok (.ifCond .ne 6, 3) := by decide +kernel
theorem dX5_copy_40 : decode cX5_copy 40 = .ok (.bipush (-11), 2) := by decide +kernel
theorem dX5_copy_42 : decode cX5_copy 42 = .ok (.ireturn, 1) := by decide +kernel
theorem dX5_copy_43 : decode cX5_copy 43 = .ok (.aload_n 0, 1) := by decide +kernel
theorem dX5_copy_44 : decode cX5_copy 44 = .ok (.getfield 42, 3) := by decide +kernel
theorem dX5_copy_47 : decode cX5_copy 47 = .ok (.iload_n 1, 1) := by decide +kernel
theorem dX5_copy_48 : decode cX5_copy 48 = .ok (.aaload, 1) := by decide +kernel
theorem dX5_copy_49 : decode cX5_copy 49 = .ok (.getfield 232, 3) := by decide +kernel
theorem dX5_copy_52 : decode cX5_copy 52 = .ok (.aload_n 0, 1) := by decide +kernel
theorem dX5_copy_53 : decode cX5_copy 53 = .ok (.getfield 42, 3) := by decide +kernel
theorem dX5_copy_56 : decode cX5_copy 56 = .ok (.iload_n 3, 1) := by decide +kernel
theorem dX5_copy_57 : decode cX5_copy 57 = .ok (.aaload, 1) := by decide +kernel
theorem dX5_copy_58 : decode cX5_copy 58 = .ok (.getfield 232, 3) := by decide +kernel
theorem dX5_copy_61 : decode cX5_copy 61 = .ok (.if_icmp .eq 6, 3) := by decide +kernel
theorem dX5_copy_64 : decode cX5_copy 64 = .ok (.bipush (-12), 2) := by decide +kernel
theorem dX5_copy_66 : decode cX5_copy 66 = .ok (.ireturn, 1) := by decide +kernel
theorem dX5_copy_67 : decode cX5_copy 67 = .ok (.aload_n 0, 1) := by decide +kernel
theorem dX5_copy_68 : decode cX5_copy 68 = .ok (.getfield 42, 3) := by decide +kernel
theorem dX5_copy_71 : decode cX5_copy 71 = .ok (.iload_n 1, 1) := by decide +kernel
theorem dX5_copy_72 : decode cX5_copy 72 = .ok (.aaload, 1) := by decide +kernel
theorem dX5_copy_73 : decode cX5_copy 73 = .ok (.iload_n 2, 1) := by decide +kernel
theorem dX5_copy_74 : decode cX5_copy 74 = .ok (.iload 5, 2) := by decide +kernel
theorem dX5_copy_76 : decode cX5_copy 76 = .ok (.invokevirtual 235, 3) := by decide +kernel
theorem dX5_copy_79 : decode cX5_copy 79 = .ok (.ifCond .ne 19, 3) := by decide +kernel
theorem dX5_copy_82 : decode cX5_copy 82 = .ok (.aload_n 0, 1) := by decide +kernel
theorem dX5_copy_83 : decode cX5_copy 83 = .ok (.getfield 42, 3) := by decide +kernel
theorem dX5_copy_86 : decode cX5_copy 86 = .ok (.iload_n 3, 1) := by decide +kernel
theorem dX5_copy_87 : decode cX5_copy 87 = .ok (.aaload, 1) := by decide +kernel
theorem dX5_copy_88 : decode cX5_copy 88 = .ok (.iload 4, 2) := by decide +kernel
theorem dX5_copy_90 : decode cX5_copy 90 = .ok (.iload 5, 2) := by decide +kernel
theorem dX5_copy_92 : decode cX5_copy 92 = .ok (.invokevirtual 235, 3) := by decide +kernel
theorem dX5_copy_95 : decode cX5_copy 95 = .ok (.ifCond .eq 6, 3) := by decide +kernel
theorem dX5_copy_98 : decode cX5_copy 98 = .ok (.bipush (-13), 2) := by decide +kernel
theorem dX5_copy_100 : decode cX5_copy 100 = .ok (.ireturn, 1) := by decide +kernel
theorem dX5_copy_101 : decode cX5_copy 101 = .ok (.aload_n 0, 1) := by decide +kernel
theorem dX5_copy_102 : decode cX5_copy 102 = .ok (.getfield 42, 3) := by decide +kernel
theorem dX5_copy_105 : decode cX5_copy 105 = .ok (.iload_n 1, 1) := by decide +kernel
theorem dX5_copy_106 : decode cX5_copy 106 = .ok (.aaload, 1) := by decide +kernel
theorem dX5_copy_107 : decode cX5_copy 107 = .ok (.getfield 238, 3) := by decide +kernel
theorem dX5_copy_110 : decode cX5_copy 110 = .ok (.iload_n 2, 1) := by decide +kernel
theorem dX5_copy_111 : decode cX5_copy 111 = .ok (.aload_n 0, 1) := by decide +kernel
theorem dX5_copy_112 : decode cX5_copy 112 = .ok (.getfield 42, 3) := by decide +kernel
theorem dX5_copy_115 : decode cX5_copy 115 = .ok (.iload_n 3, 1) := by decide +kernel
theorem dX5_copy_116 : decode cX5_copy 116 = .ok (.aaload, 1) := by decide +kernel
theorem dX5_copy_117 : decode cX5_copy 117 = .ok (.getfield 238, 3) := by decide +kernel
theorem dX5_copy_120 : decode cX5_copy 120 = .ok (.iload 4, 2) := by decide +kernel
theorem dX5_copy_122 : decode cX5_copy 122 = .ok (.iload 5, 2) := by decide +kernel
theorem dX5_copy_124 : decode cX5_copy 124 = .ok (.invokestatic 242, 3) := by decide +kernel
theorem dX5_copy_127 : decode cX5_copy 127 = .ok (.iload 5, 2) := by decide +kernel
theorem dX5_copy_129 : decode cX5_copy 129 = .ok (.ireturn, 1) := by decide +kernel
theorem dX5_isDesk_0 : decode cX5_isDesk 0 = .ok (.iload_n 0, 1) := by decide +kernel
theorem dX5_isDesk_1 : decode cX5_isDesk 1 = .ok (.ifCond .lt 13, 3) := by decide +kernel
theorem dX5_isDesk_4 : decode cX5_isDesk 4 = .ok (.iload_n 0, 1) := by decide +kernel
theorem dX5_isDesk_5 : decode cX5_isDesk 5 = .ok (.bipush 10, 2) := by decide +kernel
theorem dX5_isDesk_7 : decode cX5_isDesk 7 = .ok (.if_icmp .ge 7, 3) := by decide +kernel
theorem dX5_isDesk_10 : decode cX5_isDesk 10 = .ok (.iconst 1, 1) := by decide +kernel
theorem dX5_isDesk_11 : decode cX5_isDesk 11 = .ok (.goto 4, 3) := by decide +kernel
theorem dX5_isDesk_14 : decode cX5_isDesk 14 = .ok (.iconst 0, 1) := by decide +kernel
theorem dX5_isDesk_15 : decode cX5_isDesk 15 = .ok (.ireturn, 1) := by decide +kernel
theorem dX5_isClerk_0 : decode cX5_isClerk 0 = .ok (.iload_n 1, 1) := by decide +kernel
theorem dX5_isClerk_1 : decode cX5_isClerk 1 = .ok (.ifCond .lt 18, 3) := by decide +kernel
theorem dX5_isClerk_4 : decode cX5_isClerk 4 = .ok (.iload_n 1, 1) := by decide +kernel
theorem dX5_isClerk_5 : decode cX5_isClerk 5 = .ok (.aload_n 0, 1) := by decide +kernel
theorem dX5_isClerk_6 : decode cX5_isClerk 6 = .ok (.getfield 10, 3) := by decide +kernel
theorem dX5_isClerk_9 : decode cX5_isClerk 9 = .ok (.getfield 57, 3) := by decide +kernel
theorem dX5_isClerk_12 : decode cX5_isClerk 12 = .ok (.if_icmp .ge 7, 3) := by decide +kernel
theorem dX5_isClerk_15 : decode cX5_isClerk 15 = .ok (.iconst 1, 1) := by decide +kernel
theorem dX5_isClerk_16 : decode cX5_isClerk 16 = .ok (.goto 4, 3) := by decide +kernel
theorem dX5_isClerk_19 : decode cX5_isClerk 19 = .ok (.iconst 0, 1) := by decide +kernel
theorem dX5_isClerk_20 : decode cX5_isClerk 20 = .ok (.ireturn, 1) := by decide +kernel
theorem dX5_isForce_0 : decode cX5_isForce 0 = .ok (.iload_n 0, 1) := by decide +kernel
theorem dX5_isForce_1 : decode cX5_isForce 1 = .ok (.ifCond .lt 13, 3) := by decide +kernel
theorem dX5_isForce_4 : decode cX5_isForce 4 = .ok (.iload_n 0, 1) := by decide +kernel
theorem dX5_isForce_5 : decode cX5_isForce 5 = .ok (.bipush 99, 2) := by decide +kernel
theorem dX5_isForce_7 : decode cX5_isForce 7 = .ok (.if_icmp .gt 7, 3) := by decide +kernel
theorem dX5_isForce_10 : decode cX5_isForce 10 = .ok (.iconst 1, 1) := by decide +kernel
theorem dX5_isForce_11 : decode cX5_isForce 11 = .ok (.goto 4, 3) := by decide +kernel
theorem dX5_isForce_14 : decode cX5_isForce 14 = .ok (.iconst 0, 1) := by decide +kernel
theorem dX5_isForce_15 : decode cX5_isForce 15 = .ok (.ireturn, 1) := by decide +kernel
theorem dX5_isAhead_0 : decode cX5_isAhead 0 = .ok (.iload_n 0, 1) := by decide +kernel
theorem dX5_isAhead_1 : decode cX5_isAhead 1 = .ok (.ifCond .lt 13, 3) := by decide +kernel
theorem dX5_isAhead_4 : decode cX5_isAhead 4 = .ok (.iload_n 0, 1) := by decide +kernel
theorem dX5_isAhead_5 : decode cX5_isAhead 5 = .ok (.bipush 120, 2) := by decide +kernel
theorem dX5_isAhead_7 : decode cX5_isAhead 7 = .ok (.if_icmp .gt 7, 3) := by decide +kernel
theorem dX5_isAhead_10 : decode cX5_isAhead 10 = .ok (.iconst 1, 1) := by decide +kernel
theorem dX5_isAhead_11 : decode cX5_isAhead 11 = .ok (.goto 4, 3) := by decide +kernel
theorem dX5_isAhead_14 : decode cX5_isAhead 14 = .ok (.iconst 0, 1) := by decide +kernel
theorem dX5_isAhead_15 : decode cX5_isAhead 15 = .ok (.ireturn, 1) := by decide +kernel
theorem dX5_isEither_0 : decode cX5_isEither 0 = .ok (.iload_n 0, 1) := by decide +kernel
theorem dX5_isEither_1 : decode cX5_isEither 1 = .ok (.ifCond .eq 8, 3) := by decide +kernel
theorem dX5_isEither_4 : decode cX5_isEither 4 = .ok (.iload_n 0, 1) := by decide +kernel
theorem dX5_isEither_5 : decode cX5_isEither 5 = .ok (.iconst 1, 1) := by decide +kernel
theorem dX5_isEither_6 : decode cX5_isEither 6 = .ok (.if_icmp .ne 7, 3) := by decide +kernel
theorem dX5_isEither_9 : decode cX5_isEither 9 = .ok (.iconst 1, 1) := by decide +kernel
theorem dX5_isEither_10 : decode cX5_isEither 10 = .ok (.goto 4, 3) := by decide +kernel
theorem dX5_isEither_13 : decode cX5_isEither 13 = .ok (.iconst 0, 1) := by decide +kernel
theorem dX5_isEither_14 : decode cX5_isEither 14 = .ok (.ireturn, 1) := by decide +kernel
theorem dX5_isSheet_0 : decode cX5_isSheet 0 = .ok (.iload_n 0, 1) := by decide +kernel
theorem dX5_isSheet_1 : decode cX5_isSheet 1 = .ok (.ifCond .lt 12, 3) := by decide +kernel
theorem dX5_isSheet_4 : decode cX5_isSheet 4 = .ok (.iload_n 0, 1) := by decide +kernel
theorem dX5_isSheet_5 : decode cX5_isSheet 5 = .ok (.iconst 4, 1) := by decide +kernel
theorem dX5_isSheet_6 : decode cX5_isSheet 6 = .ok (.if_icmp .ge 7, 3) := by decide +kernel
theorem dX5_isSheet_9 : decode cX5_isSheet 9 = .ok (.iconst 1, 1) := by decide +kernel
theorem dX5_isSheet_10 : decode cX5_isSheet 10 = .ok (.goto 4, 3) := by decide +kernel
theorem dX5_isSheet_13 : decode cX5_isSheet 13 = .ok (.iconst 0, 1) := by decide +kernel
theorem dX5_isSheet_14 : decode cX5_isSheet 14 = .ok (.ireturn, 1) := by decide +kernel
theorem dX5_isLane_0 : decode cX5_isLane 0 = .ok (.iload_n 0, 1) := by decide +kernel
theorem dX5_isLane_1 : decode cX5_isLane 1 = .ok (.ifCond .lt 12, 3) := by decide +kernel
theorem dX5_isLane_4 : decode cX5_isLane 4 = .ok (.iload_n 0, 1) := by decide +kernel
theorem dX5_isLane_5 : decode cX5_isLane 5 = .ok (.iconst 4, 1) := by decide +kernel
theorem dX5_isLane_6 : decode cX5_isLane 6 = .ok (.if_icmp .ge 7, 3) := by decide +kernel
theorem dX5_isLane_9 : decode cX5_isLane 9 = .ok (.iconst 1, 1) := by decide +kernel
theorem dX5_isLane_10 : decode cX5_isLane 10 = .ok (.goto 4, 3) := by decide +kernel
theorem dX5_isLane_13 : decode cX5_isLane 13 = .ok (.iconst 0, 1) := by decide +kernel
theorem dX5_isLane_14 : decode cX5_isLane 14 = .ok (.ireturn, 1) := by decide +kernel
theorem dX5_refusalOfMinutes_0 : decode cX5_refusalOfMinutes 0 = .ok (.iload_n 1, 1) := by decide +kernel
theorem dX5_refusalOfMinutes_1 : decode cX5_refusalOfMinutes 1 = .ok (.iconst 1, 1) := by decide +kernel
theorem dX5_refusalOfMinutes_2 : decode cX5_refusalOfMinutes 2 = .ok (.if_icmp .lt 9, 3) := by decide +kernel
theorem dX5_refusalOfMinutes_5 : decode cX5_refusalOfMinutes 5 = .ok (.iload_n 1, 1) := by decide +kernel
theorem dX5_refusalOfMinutes_6 : decode cX5_refusalOfMinutes 6 = .ok (.bipush 60, 2) := by decide +kernel
theorem dX5_refusalOfMinutes_8 : decode cX5_refusalOfMinutes 8 = .ok (.if_icmp .le 5, 3) := by decide +kernel
theorem dX5_refusalOfMinutes_11 : decode cX5_refusalOfMinutes 11 = .ok (.iconst (-1), 1) := by decide +kernel
theorem dX5_refusalOfMinutes_12 : decode cX5_refusalOfMinutes 12 = .ok (.ireturn, 1) := by decide +kernel
theorem dX5_refusalOfMinutes_13 : decode cX5_refusalOfMinutes 13 = .ok (.aload_n 0, 1) := by decide +kernel
theorem dX5_refusalOfMinutes_14 : decode cX5_refusalOfMinutes 14 = .ok (.getfield 10, 3) := by decide +kernel
theorem dX5_refusalOfMinutes_17 : decode cX5_refusalOfMinutes 17 = .ok (.getfield 114, 3) := by decide +kernel
theorem dX5_refusalOfMinutes_20 : decode cX5_refusalOfMinutes 20 = .ok (.iload_n 1, 1) := by decide +kernel
theorem dX5_refusalOfMinutes_21 : decode cX5_refusalOfMinutes 21 = .ok (.iadd, 1) := by decide +kernel
theorem dX5_refusalOfMinutes_22 : decode cX5_refusalOfMinutes 22 = .ok (.sipush 9999, 3) := by decide +kernel
theorem dX5_refusalOfMinutes_25 : decode cX5_refusalOfMinutes 25 = .ok (.if_icmp .le 8, 3) := by decide +kernel
theorem dX5_refusalOfMinutes_28 : decode cX5_refusalOfMinutes 28 = .ok (.bipush (-3), 2) := by decide +kernel
theorem dX5_refusalOfMinutes_30 : decode cX5_refusalOfMinutes 30 = .ok (.goto 4, 3) := by decide +kernel
theorem dX5_refusalOfMinutes_33 : decode cX5_refusalOfMinutes 33 = .ok (.iconst 0, 1) := by decide +kernel
theorem dX5_refusalOfMinutes_34 : decode cX5_refusalOfMinutes 34 = .ok (.ireturn, 1) := by decide +kernel
set_option maxRecDepth 20000 in
theorem ggX5_growTrial_X1_take : GoodIn wsX5_growTrial wsX1_take := goodIn_r _ [7, 8, 9, 10, 11, 12, 13, 14, 15, 16, 17, 18, 19, 20, 21, 39, 40, 41, 42, 43, 44, 45, 46, 47, 48, 49, 50] (by decide +kernel) (by decide +kernel)
set_option maxRecDepth 20000 in
theorem gX5_growTrial_X1_take : GoodIn wsX5_growTrial (wsV RX5 110 RX1 yX1_take wsX1_take) := goodIn_app (goodIn_of _ (by decide +kernel)) ggX5_growTrial_X1_take
set_option maxRecDepth 20000 in
theorem ggX5_growTrial_X1_grow : GoodIn wsX5_growTrial wsX1_grow := goodIn_r _ [25, 16, 8, 20, 15, 26, 27, 28, 6, 29, 17, 39, 40, 41, 42, 43, 44, 45, 46, 47, 48, 49, 50] (by decide +kernel) (by decide +kernel)
set_option maxRecDepth 20000 in
theorem gX5_growTrial_X1_grow : GoodIn wsX5_growTrial (wsV RX5 136 RX1 yX1_grow wsX1_grow) := goodIn_app (goodIn_of _ (by decide +kernel)) ggX5_growTrial_X1_grow
theorem dX5_growTrial_0 : decode cX5_growTrial 0 = .ok (.aload_n 0, 1) := by decide +kernel
theorem dX5_growTrial_1 : decode cX5_growTrial 1 = .ok (.getfield 16, 3) := by decide +kernel
theorem dX5_growTrial_4 : decode cX5_growTrial 4 = .ok (.aload_n 0, 1) := by decide +kernel
theorem dX5_growTrial_5 : decode cX5_growTrial 5 = .ok (.getfield 10, 3) := by decide +kernel
theorem dX5_growTrial_8 : decode cX5_growTrial 8 = .ok (.invokevirtual 110, 3) := by decide +kernel
theorem dX5_growTrial_11 : decode cX5_growTrial 11 = .ok (.iconst 0, 1) := by decide +kernel
theorem dX5_growTrial_12 : decode cX5_growTrial 12 = .ok (.istore_n 2, 1) := by decide +kernel
theorem dX5_growTrial_13 : decode cX5_growTrial 13 = .ok (.iload_n 2, 1) := by decide +kernel
theorem dX5_growTrial_14 : decode cX5_growTrial 14 = .ok (.iload_n 1, 1) := by decide +kernel
theorem dX5_growTrial_15 : decode cX5_growTrial 15 = .ok (.if_icmp .ge 16, 3) := by decide +kernel
theorem dX5_growTrial_18 : decode cX5_growTrial 18 = .ok (.aload_n 0, 1) := by decide +kernel
theorem dX5_growTrial_19 : decode cX5_growTrial 19 = .ok (.getfield 16, 3) := by decide +kernel
theorem dX5_growTrial_22 : decode cX5_growTrial 22 = .ok (.invokevirtual 136, 3) := by decide +kernel
theorem dX5_growTrial_25 : decode cX5_growTrial 25 = .ok (.iinc 2 1, 3) := by decide +kernel
theorem dX5_growTrial_28 : decode cX5_growTrial 28 = .ok (.goto (-15), 3) := by decide +kernel
theorem dX5_growTrial_31 : decode cX5_growTrial 31 = .ok (.return_, 1) := by decide +kernel
set_option maxRecDepth 20000 in
theorem ggX5_fallenIf_X1_take : GoodIn wsX5_fallenIf wsX1_take := goodIn_r _ [7, 8, 9, 10, 11, 12, 13, 14, 15, 16, 17, 18, 19, 20, 21, 56, 57, 58, 59, 60, 61, 62, 63, 64, 65, 66, 67] (by decide +kernel) (by decide +kernel)
set_option maxRecDepth 20000 in
theorem gX5_fallenIf_X1_take : GoodIn wsX5_fallenIf (wsV RX5 110 RX1 yX1_take wsX1_take) := goodIn_app (goodIn_of _ (by decide +kernel)) ggX5_fallenIf_X1_take
set_option maxRecDepth 20000 in
theorem ggX5_fallenIf_X1_jolt : GoodIn wsX5_fallenIf wsX1_jolt := goodIn_r _ [25, 26, 13, 27, 19, 28, 29, 30, 6, 31, 16, 32, 33, 34, 35, 36, 37, 38, 15, 39, 40, 41, 42, 14, 8, 20, 43, 44, 45, 46, 17, 56, 57, 58, 59, 60, 61, 62, 63, 64, 65, 66, 67] (by decide +kernel) (by decide +kernel)
set_option maxRecDepth 20000 in
theorem gX5_fallenIf_X1_jolt : GoodIn wsX5_fallenIf (wsV RX5 142 RX1 yX1_jolt wsX1_jolt) := goodIn_app (goodIn_of _ (by decide +kernel)) ggX5_fallenIf_X1_jolt
theorem dX5_fallenIf_0 : decode cX5_fallenIf 0 = .ok (.aload_n 0, 1) := by decide +kernel
theorem dX5_fallenIf_1 : decode cX5_fallenIf 1 = .ok (.getfield 16, 3) := by decide +kernel
theorem dX5_fallenIf_4 : decode cX5_fallenIf 4 = .ok (.aload_n 0, 1) := by decide +kernel
theorem dX5_fallenIf_5 : decode cX5_fallenIf 5 = .ok (.getfield 10, 3) := by decide +kernel
theorem dX5_fallenIf_8 : decode cX5_fallenIf 8 = .ok (.invokevirtual 110, 3) := by decide +kernel
theorem dX5_fallenIf_11 : decode cX5_fallenIf 11 = .ok (.aload_n 0, 1) := by decide +kernel
theorem dX5_fallenIf_12 : decode cX5_fallenIf 12 = .ok (.getfield 16, 3) := by decide +kernel
theorem dX5_fallenIf_15 : decode cX5_fallenIf 15 = .ok (.iload_n 1, 1) := by decide +kernel
theorem dX5_fallenIf_16 : decode cX5_fallenIf 16 = .ok (.iload_n 2, 1) := by decide +kernel
theorem dX5_fallenIf_17 : decode cX5_fallenIf 17 = .ok (.invokevirtual 142, 3) := by decide +kernel
theorem dX5_fallenIf_20 : decode cX5_fallenIf 20 = .ok (.ireturn, 1) := by decide +kernel
set_option maxRecDepth 20000 in
theorem ggX5_lostInTrial_X1_worth : GoodIn wsX5_lostInTrial wsX1_worth := goodIn_r _ [7, 8, 9, 10, 20, 21, 22, 23, 24, 25, 26, 27, 28, 29, 30, 31] (by decide +kernel) (by decide +kernel)
set_option maxRecDepth 20000 in
theorem gX5_lostInTrial_X1_worth : GoodIn wsX5_lostInTrial (wsV RX5 117 RX1 yX1_worth wsX1_worth) := goodIn_app (goodIn_of _ (by decide +kernel)) ggX5_lostInTrial_X1_worth
theorem dX5_lostInTrial_0 : decode cX5_lostInTrial 0 = .ok (.aload_n 0, 1) := by decide +kernel
theorem dX5_lostInTrial_1 : decode cX5_lostInTrial 1 = .ok (.getfield 10, 3) := by decide +kernel
theorem dX5_lostInTrial_4 : decode cX5_lostInTrial 4 = .ok (.invokevirtual 117, 3) := by decide +kernel
theorem dX5_lostInTrial_7 : decode cX5_lostInTrial 7 = .ok (.aload_n 0, 1) := by decide +kernel
theorem dX5_lostInTrial_8 : decode cX5_lostInTrial 8 = .ok (.getfield 16, 3) := by decide +kernel
theorem dX5_lostInTrial_11 : decode cX5_lostInTrial 11 = .ok (.invokevirtual 117, 3) := by decide +kernel
theorem dX5_lostInTrial_14 : decode cX5_lostInTrial 14 = .ok (.isub, 1) := by decide +kernel
theorem dX5_lostInTrial_15 : decode cX5_lostInTrial 15 = .ok (.ireturn, 1) := by decide +kernel
set_option maxRecDepth 20000 in
theorem ggX5_leastLoss_X2_begin : GoodIn wsX5_leastLoss wsX2_begin := goodIn_r _ [8, 9, 10, 11, 12, 13, 14, 109, 110, 111] (by decide +kernel) (by decide +kernel)
set_option maxRecDepth 20000 in
theorem gX5_leastLoss_X2_begin : GoodIn wsX5_leastLoss (wsV RX5 248 RX2 yX2_begin wsX2_begin) := goodIn_app (goodIn_of _ (by decide +kernel)) ggX5_leastLoss_X2_begin
set_option maxRecDepth 20000 in
theorem ggX5_leastLoss_X5_joltSeated : GoodIn wsX5_leastLoss wsX5_joltSeated := goodIn_r _ [19, 20, 2, 3, 21, 1, 22, 23, 24, 25, 26, 27, 28, 29, 30, 31, 32, 33, 34, 35, 36, 37, 38, 39, 40, 41, 42, 43, 44, 45, 46, 47, 48, 49, 50, 51, 52, 53, 11, 54, 55, 56, 57, 58, 59, 60, 61, 62, 63, 64, 65, 88, 89, 90, 91, 92, 93, 94, 95, 96, 97, 98, 99, 100, 101, 102, 103, 104, 105, 106, 107, 108, 109, 110, 111] (by decide +kernel) (by decide +kernel)
set_option maxRecDepth 20000 in
theorem gX5_leastLoss_X5_joltSeated : GoodIn wsX5_leastLoss (wsV RX5 251 RX5 yX5_joltSeated wsX5_joltSeated) := goodIn_app (goodIn_of _ (by decide +kernel)) ggX5_leastLoss_X5_joltSeated
set_option maxRecDepth 20000 in
theorem ggX5_leastLoss_X5_lostInTrial : GoodIn wsX5_leastLoss wsX5_lostInTrial := goodIn_r _ [69, 2, 20, 70, 71, 72, 26, 73, 36, 35, 38, 88, 89, 90, 91, 92, 93, 94, 95, 96, 97, 98, 99, 100, 101, 102, 103, 104, 105, 106, 107, 108] (by decide +kernel) (by decide +kernel)
set_option maxRecDepth 20000 in
theorem gX5_leastLoss_X5_lostInTrial : GoodIn wsX5_leastLoss (wsV RX5 165 RX5 yX5_lostInTrial wsX5_lostInTrial) := goodIn_app (goodIn_of _ (by decide +kernel)) ggX5_leastLoss_X5_lostInTrial
set_option maxRecDepth 20000 in
theorem ggX5_leastLoss_X2_keep : GoodIn wsX5_leastLoss wsX2_keep := goodIn_r _ [77, 14, 78, 79, 30, 31, 32, 109, 110, 111] (by decide +kernel) (by decide +kernel)
set_option maxRecDepth 20000 in
theorem gX5_leastLoss_X2_keep : GoodIn wsX5_leastLoss (wsV RX5 254 RX2 yX2_keep wsX2_keep) := goodIn_app (goodIn_of _ (by decide +kernel)) ggX5_leastLoss_X2_keep
set_option maxRecDepth 20000 in
theorem ggX5_leastLoss_X2_advance : GoodIn wsX5_leastLoss wsX2_advance := goodIn_r _ [83, 13, 14, 84, 85, 86, 7, 87, 109, 110, 111] (by decide +kernel) (by decide +kernel)
set_option maxRecDepth 20000 in
theorem gX5_leastLoss_X2_advance : GoodIn wsX5_leastLoss (wsV RX5 257 RX2 yX2_advance wsX2_advance) := goodIn_app (goodIn_of _ (by decide +kernel)) ggX5_leastLoss_X2_advance
theorem dX5_leastLoss_0 : decode cX5_leastLoss 0 = .ok (.iconst 0, 1) := by decide +kernel
theorem dX5_leastLoss_1 : decode cX5_leastLoss 1 = .ok (.istore_n 3, 1) := by decide +kernel
theorem dX5_leastLoss_2 : decode cX5_leastLoss 2 = .ok (.iconst 1, 1) := by decide +kernel
theorem dX5_leastLoss_3 : decode cX5_leastLoss 3 = .ok (.istore 4, 2) := by decide +kernel
theorem dX5_leastLoss_5 : decode cX5_leastLoss 5 = .ok (.aload_n 0, 1) := by decide +kernel
theorem dX5_leastLoss_6 : decode cX5_leastLoss 6 = .ok (.getfield 36, 3) := by decide +kernel
theorem dX5_leastLoss_9 : decode cX5_leastLoss 9 = .ok (.aload_n 0, 1) := by decide +kernel
theorem dX5_leastLoss_10 : decode cX5_leastLoss 10 = .ok (.getfield 10, 3) := by decide +kernel
theorem dX5_leastLoss_13 : decode cX5_leastLoss 13 = .ok (.getfield 57, 3) := by decide +kernel
theorem dX5_leastLoss_16 : decode cX5_leastLoss 16 = .ok (.invokevirtual 248, 3) := by decide +kernel
theorem dX5_leastLoss_19 : decode cX5_leastLoss 19 = .ok (.iconst 0, 1) := by decide +kernel
theorem dX5_leastLoss_20 : decode cX5_leastLoss 20 = .ok (.istore 5, 2) := by decide +kernel
theorem dX5_leastLoss_22 : decode cX5_leastLoss 22 = .ok (.iload 5, 2) := by decide +kernel
theorem dX5_leastLoss_24 : decode cX5_leastLoss 24 = .ok (.sipush 720, 3) := by decide +kernel
theorem dX5_leastLoss_27 : decode cX5_leastLoss 27 = .ok (.if_icmp .ge 56, 3) := by decide +kernel
theorem dX5_leastLoss_30 : decode cX5_leastLoss 30 = .ok (.iload 4, 2) := by decide +kernel
theorem dX5_leastLoss_32 : decode cX5_leastLoss 32 = .ok (.ifCond .eq 51, 3) := by decide +kernel
theorem dX5_leastLoss_35 : decode cX5_leastLoss 35 = .ok (.aload_n 0, 1) := by decide +kernel
theorem dX5_leastLoss_36 : decode cX5_leastLoss 36 = .ok (.iload_n 1, 1) := by decide +kernel
theorem dX5_leastLoss_37 : decode cX5_leastLoss 37 = .ok (.iload_n 2, 1) := by decide +kernel
theorem dX5_leastLoss_38 : decode cX5_leastLoss 38 = .ok (.invokevirtual 251, 3) := by decide +kernel
theorem dX5_leastLoss_41 : decode cX5_leastLoss 41 = .ok (.aload_n 0, 1) := by decide +kernel
theorem dX5_leastLoss_42 : decode cX5_leastLoss 42 = .ok (.invokevirtual 165, 3) := by decide +kernel
theorem dX5_leastLoss_45 : decode cX5_leastLoss 45 = .ok (.istore 6, 2) := by decide +kernel
theorem dX5_leastLoss_47 : decode cX5_leastLoss 47 = .ok (.iload 5, 2) := by decide +kernel
theorem dX5_leastLoss_49 : decode cX5_leastLoss 49 = .ok (.ifCond .eq 9, 3) := by decide +kernel
theorem dX5_leastLoss_52 : decode cX5_leastLoss 52 = .ok (.iload 6, 2) := by decide +kernel
theorem dX5_leastLoss_54 : decode cX5_leastLoss 54 = .ok (.iload_n 3, 1) := by decide +kernel
theorem dX5_leastLoss_55 : decode cX5_leastLoss 55 = .ok (.if_icmp .ge 13, 3) := by decide +kernel
theorem dX5_leastLoss_58 : decode cX5_leastLoss 58 = .ok (.iload 6, 2) := by decide +kernel
theorem dX5_leastLoss_60 : decode cX5_leastLoss 60 = .ok (.istore_n 3, 1) := by decide +kernel
theorem dX5_leastLoss_61 : decode cX5_leastLoss 61 = .ok (.aload_n 0, 1) := by decide +kernel
theorem dX5_leastLoss_62 : decode cX5_leastLoss 62 = .ok (.getfield 36, 3) := by decide +kernel
theorem dX5_leastLoss_65 : decode cX5_leastLoss 65 = .ok (.invokevirtual 254, 3) := by decide +kernel
theorem dX5_leastLoss_68 : decode cX5_leastLoss 68 = .ok (.aload_n 0, 1) := by decide +kernel
theorem dX5_leastLoss_69 : decode cX5_leastLoss 69 = .ok (.getfield 36, 3) := by decide +kernel
theorem dX5_leastLoss_72 : decode cX5_leastLoss 72 = .ok (.invokevirtual 257, 3) := by decide +kernel
theorem dX5_leastLoss_75 : decode cX5_leastLoss 75 = .ok (.istore 4, 2) := by decide +kernel
theorem dX5_leastLoss_77 : decode cX5_leastLoss 77 = .ok (.iinc 5 1, 3) := by decide +kernel
theorem dX5_leastLoss_80 : decode cX5_leastLoss 80 = .ok (.goto (-58), 3) := by decide +kernel
theorem dX5_leastLoss_83 : decode cX5_leastLoss 83 = .ok (.iload_n 3, 1) := by decide +kernel
theorem dX5_leastLoss_84 : decode cX5_leastLoss 84 = .ok (.ireturn, 1) := by decide +kernel
set_option maxRecDepth 20000 in
theorem ggX5_joltSeated_X1_take : GoodIn wsX5_joltSeated wsX1_take := goodIn_r _ [11, 12, 13, 14, 15, 16, 17, 18, 19, 20, 21, 22, 23, 24, 25, 60, 61, 62, 63, 64, 65, 66, 67, 68, 69, 70, 71] (by decide +kernel) (by decide +kernel)
set_option maxRecDepth 20000 in
theorem gX5_joltSeated_X1_take : GoodIn wsX5_joltSeated (wsV RX5 110 RX1 yX1_take wsX1_take) := goodIn_app (goodIn_of _ (by decide +kernel)) ggX5_joltSeated_X1_take
set_option maxRecDepth 20000 in
theorem ggX5_joltSeated_X1_jolt : GoodIn wsX5_joltSeated wsX1_jolt := goodIn_r _ [29, 30, 17, 31, 23, 32, 33, 34, 10, 35, 20, 36, 37, 38, 39, 40, 41, 42, 19, 43, 44, 45, 46, 18, 12, 24, 47, 48, 49, 50, 21, 60, 61, 62, 63, 64, 65, 66, 67, 68, 69, 70, 71] (by decide +kernel) (by decide +kernel)
set_option maxRecDepth 20000 in
theorem gX5_joltSeated_X1_jolt : GoodIn wsX5_joltSeated (wsV RX5 142 RX1 yX1_jolt wsX1_jolt) := goodIn_app (goodIn_of _ (by decide +kernel)) ggX5_joltSeated_X1_jolt
theorem dX5_joltSeated_0 : decode cX5_joltSeated 0 = .ok (.aload_n 0, 1) := by decide +kernel
theorem dX5_joltSeated_1 : decode cX5_joltSeated 1 = .ok (.getfield 16, 3) := by decide +kernel
theorem dX5_joltSeated_4 : decode cX5_joltSeated 4 = .ok (.aload_n 0, 1) := by decide +kernel
theorem dX5_joltSeated_5 : decode cX5_joltSeated 5 = .ok (.getfield 10, 3) := by decide +kernel
theorem dX5_joltSeated_8 : decode cX5_joltSeated 8 = .ok (.invokevirtual 110, 3) := by decide +kernel
theorem dX5_joltSeated_11 : decode cX5_joltSeated 11 = .ok (.iconst 0, 1) := by decide +kernel
theorem dX5_joltSeated_12 : decode cX5_joltSeated 12 = .ok (.istore_n 3, 1) := by decide +kernel
theorem dX5_joltSeated_13 : decode cX5_joltSeated 13 = .ok (.iload_n 3, 1) := by decide +kernel
theorem dX5_joltSeated_14 : decode cX5_joltSeated 14 = .ok (.aload_n 0, 1) := by decide +kernel
theorem dX5_joltSeated_15 : decode cX5_joltSeated 15 = .ok (.getfield 10, 3) := by decide +kernel
theorem dX5_joltSeated_18 : decode cX5_joltSeated 18 = .ok (.getfield 57, 3) := by decide +kernel
theorem dX5_joltSeated_21 : decode cX5_joltSeated 21 = .ok (.if_icmp .ge 35, 3) := by decide +kernel
theorem dX5_joltSeated_24 : decode cX5_joltSeated 24 = .ok (.aload_n 0, 1) := by decide +kernel
theorem dX5_joltSeated_25 : decode cX5_joltSeated 25 = .ok (.getfield 16, 3) := by decide +kernel
theorem dX5_joltSeated_28 : decode cX5_joltSeated 28 = .ok (.getfield 75, 3) := by decide +kernel
theorem dX5_joltSeated_31 : decode cX5_joltSeated 31 = .ok (.iload_n 3, 1) := by decide +kernel
theorem dX5_joltSeated_32 : decode cX5_joltSeated 32 = .ok (.aload_n 0, 1) := by decide +kernel
theorem dX5_joltSeated_33 : decode cX5_joltSeated 33 = .ok (.getfield 10, 3) := by decide +kernel
theorem dX5_joltSeated_36 : decode cX5_joltSeated 36 = .ok (.getfield 75, 3) := by decide +kernel
theorem dX5_joltSeated_39 : decode cX5_joltSeated 39 = .ok (.aload_n 0, 1) := by decide +kernel
theorem dX5_joltSeated_40 : decode cX5_joltSeated 40 = .ok (.getfield 36, 3) := by decide +kernel
theorem dX5_joltSeated_43 : decode cX5_joltSeated 43 = .ok (.getfield 261, 3) := by decide +kernel
theorem dX5_joltSeated_46 : decode cX5_joltSeated 46 = .ok (.iload_n 3, 1) := by decide +kernel
theorem dX5_joltSeated_47 : decode cX5_joltSeated 47 = .ok (.iaload, 1) := by decide +kernel
theorem dX5_joltSeated_48 : decode cX5_joltSeated 48 = .ok (.iaload, 1) := by decide +kernel
theorem dX5_joltSeated_49 : decode cX5_joltSeated 49 = .ok (.iastore, 1) := by decide +kernel
theorem dX5_joltSeated_50 : decode cX5_joltSeated 50 = .ok (.iinc 3 1, 3) := by decide +kernel
theorem dX5_joltSeated_53 : decode cX5_joltSeated 53 = .ok (.goto (-40), 3) := by decide +kernel
theorem dX5_joltSeated_56 : decode cX5_joltSeated 56 = .ok (.aload_n 0, 1) := by decide +kernel
theorem dX5_joltSeated_57 : decode cX5_joltSeated 57 = .ok (.getfield 16, 3) := by decide +kernel
theorem dX5_joltSeated_60 : decode cX5_joltSeated 60 = .ok (.iload_n 1, 1) := by decide +kernel
theorem dX5_joltSeated_61 : decode cX5_joltSeated 61 = .ok (.iload_n 2, 1) := by decide +kernel
theorem dX5_joltSeated_62 : decode cX5_joltSeated 62 = .ok (.invokevirtual 142, 3) := by decide +kernel
theorem dX5_joltSeated_65 : decode cX5_joltSeated 65 = .ok (.pop, 1) := by decide +kernel
theorem dX5_joltSeated_66 : decode cX5_joltSeated 66 = .ok (.return_, 1) := by decide +kernel
set_option maxRecDepth 20000 in
theorem ggX5_fallsByLaughs_X1_take : GoodIn wsX5_fallsByLaughs wsX1_take := goodIn_r _ [9, 10, 11, 12, 13, 14, 15, 16, 17, 18, 19, 20, 21, 22, 23, 58, 59, 60, 61, 62, 63, 64, 65, 66, 67, 68, 69] (by decide +kernel) (by decide +kernel)
set_option maxRecDepth 20000 in
theorem gX5_fallsByLaughs_X1_take : GoodIn wsX5_fallsByLaughs (wsV RX5 110 RX1 yX1_take wsX1_take) := goodIn_app (goodIn_of _ (by decide +kernel)) ggX5_fallsByLaughs_X1_take
set_option maxRecDepth 20000 in
theorem ggX5_fallsByLaughs_X1_jolt : GoodIn wsX5_fallsByLaughs wsX1_jolt := goodIn_r _ [27, 28, 15, 29, 21, 30, 31, 32, 8, 33, 18, 34, 35, 36, 37, 38, 39, 40, 17, 41, 42, 43, 44, 16, 10, 22, 45, 46, 47, 48, 19, 58, 59, 60, 61, 62, 63, 64, 65, 66, 67, 68, 69] (by decide +kernel) (by decide +kernel)
set_option maxRecDepth 20000 in
theorem gX5_fallsByLaughs_X1_jolt : GoodIn wsX5_fallsByLaughs (wsV RX5 142 RX1 yX1_jolt wsX1_jolt) := goodIn_app (goodIn_of _ (by decide +kernel)) ggX5_fallsByLaughs_X1_jolt
theorem dX5_fallsByLaughs_0 : decode cX5_fallsByLaughs 0 = .ok (.aload_n 0, 1) := by decide +kernel
theorem dX5_fallsByLaughs_1 : decode cX5_fallsByLaughs 1 = .ok (.getfield 16, 3) := by decide +kernel
theorem dX5_fallsByLaughs_4 : decode cX5_fallsByLaughs 4 = .ok (.aload_n 0, 1) := by decide +kernel
theorem dX5_fallsByLaughs_5 : decode cX5_fallsByLaughs 5 = .ok (.getfield 10, 3) := by decide +kernel
theorem dX5_fallsByLaughs_8 : decode cX5_fallsByLaughs 8 = .ok (.invokevirtual 110, 3) := by decide +kernel
theorem dX5_fallsByLaughs_11 : decode cX5_fallsByLaughs 11 = .ok (.iconst 0, 1) := by decide +kernel
theorem dX5_fallsByLaughs_12 : decode cX5_fallsByLaughs 12 = .ok (.istore_n 3, 1) := by decide +kernel
theorem dX5_fallsByLaughs_13 : decode cX5_fallsByLaughs 13 = .ok (.iconst 0, 1) := by decide +kernel
theorem dX5_fallsByLaughs_14 : decode cX5_fallsByLaughs 14 = .ok (.istore 4, 2) := by decide +kernel
theorem dX5_fallsByLaughs_16 : decode cX5_fallsByLaughs 16 = .ok (.iload 4, 2) := by decide +kernel
theorem dX5_fallsByLaughs_18 : decode cX5_fallsByLaughs 18 = .ok (.aload_n 0, 1) := by decide +kernel
theorem dX5_fallsByLaughs_19 : decode cX5_fallsByLaughs 19 = .ok (.getfield 10, 3) := by decide +kernel
theorem dX5_fallsByLaughs_22 : decode cX5_fallsByLaughs 22 = .ok (.getfield 57, 3) := by decide +kernel
theorem dX5_fallsByLaughs_25 : decode cX5_fallsByLaughs 25 = .ok (.if_icmp .ge 40, 3) := by decide +kernel
theorem dX5_fallsByLaughs_28 : decode cX5_fallsByLaughs 28 = .ok (.iload_n 2, 1) := by decide +kernel
theorem dX5_fallsByLaughs_29 : decode cX5_fallsByLaughs 29 = .ok (.iload 4, 2) := by decide +kernel
theorem dX5_fallsByLaughs_31 : decode cX5_fallsByLaughs 31 = .ok (.ishr, 1) := by decide +kernel
theorem dX5_fallsByLaughs_32 : decode cX5_fallsByLaughs 32 = .ok (.iconst 1, 1) := by decide +kernel
theorem dX5_fallsByLaughs_33 : decode cX5_fallsByLaughs 33 = .ok (.iand, 1) := by decide +kernel
theorem dX5_fallsByLaughs_34 : decode cX5_fallsByLaughs 34 = .ok (.ifCond .eq 25, 3) := by decide +kernel
theorem dX5_fallsByLaughs_37 : decode cX5_fallsByLaughs 37 = .ok (.iload_n 3, 1) := by decide +kernel
theorem dX5_fallsByLaughs_38 : decode cX5_fallsByLaughs 38 = .ok (.aload_n 0, 1) := by decide +kernel
theorem dX5_fallsByLaughs_39 : decode cX5_fallsByLaughs 39 = .ok (.getfield 16, 3) := by decide +kernel
theorem dX5_fallsByLaughs_42 : decode cX5_fallsByLaughs 42 = .ok (.aload_n 0, 1) := by decide +kernel
theorem dX5_fallsByLaughs_43 : decode cX5_fallsByLaughs 43 = .ok (.getfield 10, 3) := by decide +kernel
theorem dX5_fallsByLaughs_46 : decode cX5_fallsByLaughs 46 = .ok (.getfield 75, 3) := by decide +kernel
theorem dX5_fallsByLaughs_49 : decode cX5_fallsByLaughs 49 = .ok (.iload 4, 2) := by decide +kernel
theorem dX5_fallsByLaughs_51 : decode cX5_fallsByLaughs 51 = .ok (.iaload, 1) := by decide +kernel
theorem dX5_fallsByLaughs_52 : decode cX5_fallsByLaughs 52 = .ok (.bipush 9, 2) := by decide +kernel
theorem dX5_fallsByLaughs_54 : decode cX5_fallsByLaughs 54 = .ok (.invokevirtual 142, 3) := by decide +kernel
theorem dX5_fallsByLaughs_57 : decode cX5_fallsByLaughs 57 = .ok (.ior, 1) := by decide +kernel
theorem dX5_fallsByLaughs_58 : decode cX5_fallsByLaughs 58 = .ok (.istore_n 3, 1) := by decide +kernel
theorem dX5_fallsByLaughs_59 : decode cX5_fallsByLaughs 59 = .ok (.iinc 4 1, 3) := by decide +kernel
theorem dX5_fallsByLaughs_62 : decode cX5_fallsByLaughs 62 = .ok (.goto (-46), 3) := by decide +kernel
theorem dX5_fallsByLaughs_65 : decode cX5_fallsByLaughs 65 = .ok (.iload_n 3, 1) := by decide +kernel
theorem dX5_fallsByLaughs_66 : decode cX5_fallsByLaughs 66 = .ok (.iload_n 1, 1) := by decide +kernel
theorem dX5_fallsByLaughs_67 : decode cX5_fallsByLaughs 67 = .ok (.ishr, 1) := by decide +kernel
theorem dX5_fallsByLaughs_68 : decode cX5_fallsByLaughs 68 = .ok (.iconst 1, 1) := by decide +kernel
theorem dX5_fallsByLaughs_69 : decode cX5_fallsByLaughs 69 = .ok (.iand, 1) := by decide +kernel
theorem dX5_fallsByLaughs_70 : decode cX5_fallsByLaughs 70 = .ok (.ifCond .eq 7, 3) := by decide +kernel
theorem dX5_fallsByLaughs_73 : decode cX5_fallsByLaughs 73 = .ok (.iconst 1, 1) := by decide +kernel
theorem dX5_fallsByLaughs_74 : decode cX5_fallsByLaughs 74 = .ok (.goto 4, 3) := by decide +kernel
theorem dX5_fallsByLaughs_77 : decode cX5_fallsByLaughs 77 = .ok (.iconst 0, 1) := by decide +kernel
theorem dX5_fallsByLaughs_78 : decode cX5_fallsByLaughs 78 = .ok (.ireturn, 1) := by decide +kernel
theorem dX5_waysToLaugh_0 : decode cX5_waysToLaugh 0 = .ok (.iconst 1, 1) := by decide +kernel
theorem dX5_waysToLaugh_1 : decode cX5_waysToLaugh 1 = .ok (.istore 4, 2) := by decide +kernel
theorem dX5_waysToLaugh_3 : decode cX5_waysToLaugh 3 = .ok (.iconst 0, 1) := by decide +kernel
theorem dX5_waysToLaugh_4 : decode cX5_waysToLaugh 4 = .ok (.istore 5, 2) := by decide +kernel
theorem dX5_waysToLaugh_6 : decode cX5_waysToLaugh 6 = .ok (.iload 5, 2) := by decide +kernel
theorem dX5_waysToLaugh_8 : decode cX5_waysToLaugh 8 = .ok (.aload_n 0, 1) := by decide +kernel
theorem dX5_waysToLaugh_9 : decode cX5_waysToLaugh 9 = .ok (.getfield 10, 3) := by decide +kernel
theorem dX5_waysToLaugh_12 : decode cX5_waysToLaugh 12 = .ok (.getfield 57, 3) := by decide +kernel
theorem dX5_waysToLaugh_15 : decode cX5_waysToLaugh 15 = .ok (.if_icmp .ge 37, 3) := by decide +kernel
theorem dX5_waysToLaugh_18 : decode cX5_waysToLaugh 18 = .ok (.iload 5, 2) := by decide +kernel
theorem dX5_waysToLaugh_20 : decode cX5_waysToLaugh 20 = .ok (.iload_n 1, 1) := by decide +kernel
theorem dX5_waysToLaugh_21 : decode cX5_waysToLaugh 21 = .ok (.if_icmp .eq 25, 3) := by decide +kernel
theorem dX5_waysToLaugh_24 : decode cX5_waysToLaugh 24 = .ok (.iload 4, 2) := by decide +kernel
theorem dX5_waysToLaugh_26 : decode cX5_waysToLaugh 26 = .ok (.iload_n 2, 1) := by decide +kernel
theorem dX5_waysToLaugh_27 : decode cX5_waysToLaugh 27 = .ok (.iload 5, 2) := by decide +kernel
theorem dX5_waysToLaugh_29 : decode cX5_waysToLaugh 29 = .ok (.ishr, 1) := by decide +kernel
theorem dX5_waysToLaugh_30 : decode cX5_waysToLaugh 30 = .ok (.iconst 1, 1) := by decide +kernel
theorem dX5_waysToLaugh_31 : decode cX5_waysToLaugh 31 = .ok (.iand, 1) := by decide +kernel
theorem dX5_waysToLaugh_32 : decode cX5_waysToLaugh 32 = .ok (.ifCond .eq 7, 3) := by decide +kernel
theorem dX5_waysToLaugh_35 : decode cX5_waysToLaugh 35 = .ok (.iload_n 3, 1) := by decide +kernel
theorem dX5_waysToLaugh_36 : decode cX5_waysToLaugh 36 = .ok (.goto 7, 3) := by decide +kernel
theorem dX5_waysToLaugh_39 : decode cX5_waysToLaugh 39 = .ok (.bipush 10, 2) := by decide +kernel
theorem dX5_waysToLaugh_41 : decode cX5_waysToLaugh 41 = .ok (.iload_n 3, 1) := by decide +kernel
theorem dX5_waysToLaugh_42 : decode cX5_waysToLaugh 42 = .ok (.isub, 1) := by decide +kernel
theorem dX5_waysToLaugh_43 : decode cX5_waysToLaugh 43 = .ok (.imul, 1) := by decide +kernel
theorem dX5_waysToLaugh_44 : decode cX5_waysToLaugh 44 = .ok (.istore 4, 2) := by decide +kernel
theorem dX5_waysToLaugh_46 : decode cX5_waysToLaugh 46 = .ok (.iinc 5 1, 3) := by decide +kernel
theorem dX5_waysToLaugh_49 : decode cX5_waysToLaugh 49 = .ok (.goto (-43), 3) := by decide +kernel
theorem dX5_waysToLaugh_52 : decode cX5_waysToLaugh 52 = .ok (.iload 4, 2) := by decide +kernel
theorem dX5_waysToLaugh_54 : decode cX5_waysToLaugh 54 = .ok (.ireturn, 1) := by decide +kernel
theorem dX5_commonDivisor_0 : decode cX5_commonDivisor 0 = .ok (.iload_n 1, 1) := by decide +kernel
theorem dX5_commonDivisor_1 : decode cX5_commonDivisor 1 = .ok (.istore_n 2, 1) := by decide +kernel
theorem dX5_commonDivisor_2 : decode cX5_commonDivisor 2 = .ok (.iload_n 0, 1) := by decide +kernel
theorem dX5_commonDivisor_3 : decode cX5_commonDivisor 3 = .ok (.istore_n 3, 1) := by decide +kernel
theorem dX5_commonDivisor_4 : decode cX5_commonDivisor 4 = .ok (.iconst 0, 1) := by decide +kernel
theorem dX5_commonDivisor_5 : decode cX5_commonDivisor 5 = .ok (.istore 4, 2) := by decide +kernel
theorem dX5_commonDivisor_7 : decode cX5_commonDivisor 7 = .ok (.iload 4, 2) := by decide +kernel
theorem dX5_commonDivisor_9 : decode cX5_commonDivisor 9 = .ok (.bipush 64, 2) := by decide +kernel
theorem dX5_commonDivisor_11 : decode cX5_commonDivisor 11 = .ok (.if_icmp .ge 23, 3) := by decide +kernel
theorem dX5_commonDivisor_14 : decode cX5_commonDivisor 14 = .ok (.iload_n 3, 1) := by decide +kernel
theorem dX5_commonDivisor_15 : decode cX5_commonDivisor 15 = .ok (.ifCond .eq 19, 3) := by decide +kernel
theorem dX5_commonDivisor_18 : decode cX5_commonDivisor 18 = .ok (.iload_n 2, 1) := by decide +kernel
theorem dX5_commonDivisor_19 : decode cX5_commonDivisor 19 = .ok (.iload_n 3, 1) := by decide +kernel
theorem dX5_commonDivisor_20 : decode cX5_commonDivisor 20 = .ok (.irem, 1) := by decide +kernel
theorem dX5_commonDivisor_21 : decode cX5_commonDivisor 21 = .ok (.istore 5, 2) := by decide +kernel
theorem dX5_commonDivisor_23 : decode cX5_commonDivisor 23 = .ok (.iload_n 3, 1) := by decide +kernel
theorem dX5_commonDivisor_24 : decode cX5_commonDivisor 24 = .ok (.istore_n 2, 1) := by decide +kernel
theorem dX5_commonDivisor_25 : decode cX5_commonDivisor 25 = .ok (.iload 5, 2) := by decide +kernel
theorem dX5_commonDivisor_27 : decode cX5_commonDivisor 27 = .ok (.istore_n 3, 1) := by decide +kernel
theorem dX5_commonDivisor_28 : decode cX5_commonDivisor 28 = .ok (.iinc 4 1, 3) := by decide +kernel
theorem dX5_commonDivisor_31 : decode cX5_commonDivisor 31 = .ok (.goto (-24), 3) := by decide +kernel
theorem dX5_commonDivisor_34 : decode cX5_commonDivisor 34 = .ok (.iload_n 2, 1) := by decide +kernel
theorem dX5_commonDivisor_35 : decode cX5_commonDivisor 35 = .ok (.ireturn, 1) := by decide +kernel
theorem dX5_clerksTold_0 : decode cX5_clerksTold 0 = .ok (.iconst 0, 1) := by decide +kernel
theorem dX5_clerksTold_1 : decode cX5_clerksTold 1 = .ok (.istore 4, 2) := by decide +kernel
theorem dX5_clerksTold_3 : decode cX5_clerksTold 3 = .ok (.iconst 0, 1) := by decide +kernel
theorem dX5_clerksTold_4 : decode cX5_clerksTold 4 = .ok (.istore 5, 2) := by decide +kernel
theorem dX5_clerksTold_6 : decode cX5_clerksTold 6 = .ok (.iload 5, 2) := by decide +kernel
theorem dX5_clerksTold_8 : decode cX5_clerksTold 8 = .ok (.iload_n 3, 1) := by decide +kernel
theorem dX5_clerksTold_9 : decode cX5_clerksTold 9 = .ok (.if_icmp .ge 65, 3) := by decide +kernel
theorem dX5_clerksTold_12 : decode cX5_clerksTold 12 = .ok (.aload_n 1, 1) := by decide +kernel
theorem dX5_clerksTold_13 : decode cX5_clerksTold 13 = .ok (.getfield 238, 3) := by decide +kernel
theorem dX5_clerksTold_16 : decode cX5_clerksTold 16 = .ok (.iload_n 2, 1) := by decide +kernel
theorem dX5_clerksTold_17 : decode cX5_clerksTold 17 = .ok (.iload 5, 2) := by decide +kernel
theorem dX5_clerksTold_19 : decode cX5_clerksTold 19 = .ok (.iadd, 1) := by decide +kernel
theorem dX5_clerksTold_20 : decode cX5_clerksTold 20 = .ok (.laload, 1) := by decide +kernel
theorem dX5_clerksTold_21 : decode cX5_clerksTold 21 = .ok (.lstore 6, 2) := by decide +kernel
theorem dX5_clerksTold_23 : decode cX5_clerksTold 23 = .ok (.lload 6, 2) := by decide +kernel
theorem dX5_clerksTold_25 : decode cX5_clerksTold 25 = .ok (.lconst 0, 1) := by decide +kernel
theorem dX5_clerksTold_26 : decode cX5_clerksTold 26 = .ok (.lcmp, 1) := by decide +kernel
theorem dX5_clerksTold_27 : decode cX5_clerksTold 27 = .ok (.ifCond .lt 28, 3) := by decide +kernel
theorem dX5_clerksTold_30 : decode cX5_clerksTold 30 = .ok (.lload 6, 2) := by decide +kernel
theorem dX5_clerksTold_32 : decode cX5_clerksTold 32 = .ok (.aload_n 0, 1) := by decide +kernel
theorem dX5_clerksTold_33 : decode cX5_clerksTold 33 = .ok (.getfield 10, 3) := by decide +kernel
theorem dX5_clerksTold_36 : decode cX5_clerksTold 36 = .ok (.getfield 57, 3) := by decide +kernel
theorem dX5_clerksTold_39 : decode cX5_clerksTold 39 = .ok (.i2l, 1) := by decide +kernel
theorem dX5_clerksTold_40 : decode cX5_clerksTold 40 = .ok (.lcmp, 1) := by decide +kernel
theorem dX5_clerksTold_41 : decode cX5_clerksTold 41 = .ok (.ifCond .ge 14, 3) := by decide +kernel
theorem dX5_clerksTold_44 : decode cX5_clerksTold 44 = .ok (.iload 4, 2) := by decide +kernel
theorem dX5_clerksTold_46 : decode cX5_clerksTold 46 = .ok (.lload 6, 2) := by decide +kernel
theorem dX5_clerksTold_48 : decode cX5_clerksTold 48 = .ok (.l2i, 1) := by decide +kernel
theorem dX5_clerksTold_49 : decode cX5_clerksTold 49 = .ok (.ishr, 1) := by decide +kernel
theorem dX5_clerksTold_50 : decode cX5_clerksTold 50 = .ok (.iconst 1, 1) := by decide +kernel
theorem dX5_clerksTold_51 : decode cX5_clerksTold 51 = .ok (.iand, 1) := by decide +kernel
theorem dX5_clerksTold_52 : decode cX5_clerksTold 52 = .ok (.ifCond .eq 6, 3) := by decide +kernel
theorem dX5_clerksTold_55 : decode cX5_clerksTold 55 = .ok (.bipush (-2), 2) := by decide +kernel
theorem dX5_clerksTold_57 : decode cX5_clerksTold 57 = .ok (.ireturn, 1) := by decide +kernel
theorem dX5_clerksTold_58 : decode cX5_clerksTold 58 = .ok (.iload 4, 2) := by decide +kernel
theorem dX5_clerksTold_60 : decode cX5_clerksTold 60 = .ok (.iconst 1, 1) := by decide +kernel
theorem dX5_clerksTold_61 : decode cX5_clerksTold 61 = .ok (.lload 6, 2) := by decide +kernel
theorem dX5_clerksTold_63 : decode cX5_clerksTold 63 = .ok (.l2i, 1) := by decide +kernel
theorem dX5_clerksTold_64 : decode cX5_clerksTold 64 = .ok (.ishl, 1) := by decide +kernel
theorem dX5_clerksTold_65 : decode cX5_clerksTold 65 = .ok (.ior, 1) := by decide +kernel
theorem dX5_clerksTold_66 : decode cX5_clerksTold 66 = .ok (.istore 4, 2) := by decide +kernel
theorem dX5_clerksTold_68 : decode cX5_clerksTold 68 = .ok (.iinc 5 1, 3) := by decide +kernel
theorem dX5_clerksTold_71 : decode cX5_clerksTold 71 = .ok (.goto (-65), 3) := by decide +kernel
theorem dX5_clerksTold_74 : decode cX5_clerksTold 74 = .ok (.iload 4, 2) := by decide +kernel
theorem dX5_clerksTold_76 : decode cX5_clerksTold 76 = .ok (.ireturn, 1) := by decide +kernel
set_option maxRecDepth 20000 in
theorem ggX5_waysTo_X5_fallenIf : GoodIn wsX5_waysTo wsX5_fallenIf := goodIn_r _ [5, 6, 7, 8, 9, 10, 11, 12, 13, 14, 15, 16, 17, 18, 19, 20, 21, 22, 23, 24, 25, 26, 27, 28, 29, 30, 31, 32, 33, 34, 35, 36, 37, 38, 39, 40, 41, 42, 43, 44, 45, 46, 47, 48, 49, 50, 51, 52, 53, 54, 55, 56, 57, 58, 59, 60, 61, 62, 63, 64, 65, 66, 67, 68, 69, 70, 71, 72] (by decide +kernel) (by decide +kernel)
set_option maxRecDepth 20000 in
theorem gX5_waysTo_X5_fallenIf : GoodIn wsX5_waysTo (wsV RX5 162 RX5 yX5_fallenIf wsX5_fallenIf) := goodIn_app (goodIn_of _ (by decide +kernel)) ggX5_waysTo_X5_fallenIf
theorem dX5_waysTo_0 : decode cX5_waysTo 0 = .ok (.iconst 0, 1) := by decide +kernel
theorem dX5_waysTo_1 : decode cX5_waysTo 1 = .ok (.istore_n 2, 1) := by decide +kernel
theorem dX5_waysTo_2 : decode cX5_waysTo 2 = .ok (.iconst 0, 1) := by decide +kernel
theorem dX5_waysTo_3 : decode cX5_waysTo 3 = .ok (.istore_n 3, 1) := by decide +kernel
theorem dX5_waysTo_4 : decode cX5_waysTo 4 = .ok (.iload_n 3, 1) := by decide +kernel
theorem dX5_waysTo_5 : decode cX5_waysTo 5 = .ok (.bipush 10, 2) := by decide +kernel
theorem dX5_waysTo_7 : decode cX5_waysTo 7 = .ok (.if_icmp .ge 39, 3) := by decide +kernel
theorem dX5_waysTo_10 : decode cX5_waysTo 10 = .ok (.iconst 1, 1) := by decide +kernel
theorem dX5_waysTo_11 : decode cX5_waysTo 11 = .ok (.istore 4, 2) := by decide +kernel
theorem dX5_waysTo_13 : decode cX5_waysTo 13 = .ok (.iload 4, 2) := by decide +kernel
theorem dX5_waysTo_15 : decode cX5_waysTo 15 = .ok (.bipush 40, 2) := by decide +kernel
theorem dX5_waysTo_17 : decode cX5_waysTo 17 = .ok (.if_icmp .gt 23, 3) := by decide +kernel
theorem dX5_waysTo_20 : decode cX5_waysTo 20 = .ok (.aload_n 0, 1) := by decide +kernel
theorem dX5_waysTo_21 : decode cX5_waysTo 21 = .ok (.iload_n 3, 1) := by decide +kernel
theorem dX5_waysTo_22 : decode cX5_waysTo 22 = .ok (.iload 4, 2) := by decide +kernel
theorem dX5_waysTo_24 : decode cX5_waysTo 24 = .ok (.invokevirtual 162, 3) := by decide +kernel
theorem dX5_waysTo_27 : decode cX5_waysTo 27 = .ok (.iload_n 1, 1) := by decide +kernel
theorem dX5_waysTo_28 : decode cX5_waysTo 28 = .ok (.if_icmp .ne 6, 3) := by decide +kernel
theorem dX5_waysTo_31 : decode cX5_waysTo 31 = .ok (.iinc 2 1, 3) := by decide +kernel
theorem dX5_waysTo_34 : decode cX5_waysTo 34 = .ok (.iinc 4 1, 3) := by decide +kernel
theorem dX5_waysTo_37 : decode cX5_waysTo 37 = .ok (.goto (-24), 3) := by decide +kernel
theorem dX5_waysTo_40 : decode cX5_waysTo 40 = .ok (.iinc 3 1, 3) := by decide +kernel
theorem dX5_waysTo_43 : decode cX5_waysTo 43 = .ok (.goto (-39), 3) := by decide +kernel
theorem dX5_waysTo_46 : decode cX5_waysTo 46 = .ok (.iload_n 2, 1) := by decide +kernel
theorem dX5_waysTo_47 : decode cX5_waysTo 47 = .ok (.ireturn, 1) := by decide +kernel
set_option maxRecDepth 20000 in
theorem ggX5_firstWayTo_X5_fallenIf : GoodIn wsX5_firstWayTo wsX5_fallenIf := goodIn_r _ [5, 6, 7, 8, 9, 10, 11, 12, 13, 14, 15, 16, 17, 18, 19, 20, 21, 22, 23, 24, 25, 26, 27, 28, 29, 30, 31, 32, 33, 34, 35, 36, 37, 38, 39, 40, 41, 42, 43, 44, 45, 46, 47, 48, 49, 50, 51, 52, 53, 54, 55, 56, 57, 58, 59, 60, 61, 62, 63, 64, 65, 66, 67, 68, 69, 70, 71, 72] (by decide +kernel) (by decide +kernel)
set_option maxRecDepth 20000 in
theorem gX5_firstWayTo_X5_fallenIf : GoodIn wsX5_firstWayTo (wsV RX5 162 RX5 yX5_fallenIf wsX5_fallenIf) := goodIn_app (goodIn_of _ (by decide +kernel)) ggX5_firstWayTo_X5_fallenIf
theorem dX5_firstWayTo_0 : decode cX5_firstWayTo 0 = .ok (.iconst 0, 1) := by decide +kernel
theorem dX5_firstWayTo_1 : decode cX5_firstWayTo 1 = .ok (.istore_n 2, 1) := by decide +kernel
theorem dX5_firstWayTo_2 : decode cX5_firstWayTo 2 = .ok (.iload_n 2, 1) := by decide +kernel
theorem dX5_firstWayTo_3 : decode cX5_firstWayTo 3 = .ok (.bipush 10, 2) := by decide +kernel
theorem dX5_firstWayTo_5 : decode cX5_firstWayTo 5 = .ok (.if_icmp .ge 40, 3) := by decide +kernel
theorem dX5_firstWayTo_8 : decode cX5_firstWayTo 8 = .ok (.iconst 1, 1) := by decide +kernel
theorem dX5_firstWayTo_9 : decode cX5_firstWayTo 9 = .ok (.istore_n 3, 1) := by decide +kernel
theorem dX5_firstWayTo_10 : decode cX5_firstWayTo 10 = .ok (.iload_n 3, 1) := by decide +kernel
theorem dX5_firstWayTo_11 : decode cX5_firstWayTo 11 = .ok (.bipush 40, 2) := by decide +kernel
theorem dX5_firstWayTo_13 : decode cX5_firstWayTo 13 = .ok (.if_icmp .gt 26, 3) := by decide +kernel
theorem dX5_firstWayTo_16 : decode cX5_firstWayTo 16 = .ok (.aload_n 0, 1) := by decide +kernel
theorem dX5_firstWayTo_17 : decode cX5_firstWayTo 17 = .ok (.iload_n 2, 1) := by decide +kernel
theorem dX5_firstWayTo_18 : decode cX5_firstWayTo 18 = .ok (.iload_n 3, 1) := by decide +kernel
theorem dX5_firstWayTo_19 : decode cX5_firstWayTo 19 = .ok (.invokevirtual 162, 3) := by decide +kernel
theorem dX5_firstWayTo_22 : decode cX5_firstWayTo 22 = .ok (.iload_n 1, 1) := by decide +kernel
theorem dX5_firstWayTo_23 : decode cX5_firstWayTo 23 = .ok (.if_icmp .ne 10, 3) := by decide +kernel
theorem dX5_firstWayTo_26 : decode cX5_firstWayTo 26 = .ok (.bipush 100, 2) := by decide +kernel
theorem dX5_firstWayTo_28 : decode cX5_firstWayTo 28 = .ok (.iload_n 2, 1) := by decide +kernel
theorem dX5_firstWayTo_29 : decode cX5_firstWayTo 29 = .ok (.imul, 1) := by decide +kernel
theorem dX5_firstWayTo_30 : decode cX5_firstWayTo 30 = .ok (.iload_n 3, 1) := by decide +kernel
theorem dX5_firstWayTo_31 : decode cX5_firstWayTo 31 = .ok (.iadd, 1) := by decide +kernel
theorem dX5_firstWayTo_32 : decode cX5_firstWayTo 32 = .ok (.ireturn, 1) := by decide +kernel
theorem dX5_firstWayTo_33 : decode cX5_firstWayTo 33 = .ok (.iinc 3 1, 3) := by decide +kernel
theorem dX5_firstWayTo_36 : decode cX5_firstWayTo 36 = .ok (.goto (-26), 3) := by decide +kernel
theorem dX5_firstWayTo_39 : decode cX5_firstWayTo 39 = .ok (.iinc 2 1, 3) := by decide +kernel
theorem dX5_firstWayTo_42 : decode cX5_firstWayTo 42 = .ok (.goto (-40), 3) := by decide +kernel
theorem dX5_firstWayTo_45 : decode cX5_firstWayTo 45 = .ok (.bipush (-4), 2) := by decide +kernel
theorem dX5_firstWayTo_47 : decode cX5_firstWayTo 47 = .ok (.ireturn, 1) := by decide +kernel
theorem dX6_in_0 : decode cX6_in 0 = .ok (.lload_n 0, 1) := by decide +kernel
theorem dX6_in_1 : decode cX6_in 1 = .ok (.lload_n 2, 1) := by decide +kernel
theorem dX6_in_2 : decode cX6_in 2 = .ok (.lcmp, 1) := by decide +kernel
theorem dX6_in_3 : decode cX6_in 3 = .ok (.ifCond .lt 14, 3) := by decide +kernel
theorem dX6_in_6 : decode cX6_in 6 = .ok (.lload_n 0, 1) := by decide +kernel
theorem dX6_in_7 : decode cX6_in 7 = .ok (.lload 4, 2) := by decide +kernel
theorem dX6_in_9 : decode cX6_in 9 = .ok (.lcmp, 1) := by decide +kernel
theorem dX6_in_10 : decode cX6_in 10 = .ok (.ifCond .gt 7, 3) := by decide +kernel
theorem dX6_in_13 : decode cX6_in 13 = .ok (.iconst 1, 1) := by decide +kernel
theorem dX6_in_14 : decode cX6_in 14 = .ok (.goto 4, 3) := by decide +kernel
theorem dX6_in_17 : decode cX6_in 17 = .ok (.iconst 0, 1) := by decide +kernel
theorem dX6_in_18 : decode cX6_in 18 = .ok (.ireturn, 1) := by decide +kernel
theorem dX6_init_0 : decode cX6_init 0 = .ok (.aload_n 0, 1) := by decide +kernel
theorem dX6_init_1 : decode cX6_init 1 = .ok (.invokespecial 1, 3) := by decide +kernel
theorem dX6_init_4 : decode cX6_init 4 = .ok (.aload_n 0, 1) := by decide +kernel
theorem dX6_init_5 : decode cX6_init 5 = .ok (.bipush 35, 2) := by decide +kernel
theorem dX6_init_7 : decode cX6_init 7 = .ok (.newarray .int, 2) := by decide +kernel
theorem dX6_init_9 : decode cX6_init 9 = .ok (.putfield 7, 3) := by decide +kernel
theorem dX6_init_12 : decode cX6_init 12 = .ok (.aload_n 0, 1) := by decide +kernel
theorem dX6_init_13 : decode cX6_init 13 = .ok (.bipush 12, 2) := by decide +kernel
theorem dX6_init_15 : decode cX6_init 15 = .ok (.newarray .int, 2) := by decide +kernel
theorem dX6_init_17 : decode cX6_init 17 = .ok (.putfield 13, 3) := by decide +kernel
theorem dX6_init_20 : decode cX6_init 20 = .ok (.aload_n 0, 1) := by decide +kernel
theorem dX6_init_21 : decode cX6_init 21 = .ok (.bipush 70, 2) := by decide +kernel
theorem dX6_init_23 : decode cX6_init 23 = .ok (.newarray .int, 2) := by decide +kernel
theorem dX6_init_25 : decode cX6_init 25 = .ok (.putfield 16, 3) := by decide +kernel
theorem dX6_init_28 : decode cX6_init 28 = .ok (.aload_n 0, 1) := by decide +kernel
theorem dX6_init_29 : decode cX6_init 29 = .ok (.bipush 30, 2) := by decide +kernel
theorem dX6_init_31 : decode cX6_init 31 = .ok (.newarray .int, 2) := by decide +kernel
theorem dX6_init_33 : decode cX6_init 33 = .ok (.putfield 19, 3) := by decide +kernel
theorem dX6_init_36 : decode cX6_init 36 = .ok (.aload_n 0, 1) := by decide +kernel
theorem dX6_init_37 : decode cX6_init 37 = .ok (.bipush 112, 2) := by decide +kernel
theorem dX6_init_39 : decode cX6_init 39 = .ok (.newarray .int, 2) := by decide +kernel
theorem dX6_init_41 : decode cX6_init 41 = .ok (.putfield 22, 3) := by decide +kernel
theorem dX6_init_44 : decode cX6_init 44 = .ok (.aload_n 0, 1) := by decide +kernel
theorem dX6_init_45 : decode cX6_init 45 = .ok (.bipush 35, 2) := by decide +kernel
theorem dX6_init_47 : decode cX6_init 47 = .ok (.newarray .int, 2) := by decide +kernel
theorem dX6_init_49 : decode cX6_init 49 = .ok (.putfield 25, 3) := by decide +kernel
theorem dX6_init_52 : decode cX6_init 52 = .ok (.aload_n 0, 1) := by decide +kernel
theorem dX6_init_53 : decode cX6_init 53 = .ok (.bipush 6, 2) := by decide +kernel
theorem dX6_init_55 : decode cX6_init 55 = .ok (.newarray .int, 2) := by decide +kernel
theorem dX6_init_57 : decode cX6_init 57 = .ok (.putfield 28, 3) := by decide +kernel
theorem dX6_init_60 : decode cX6_init 60 = .ok (.aload_n 0, 1) := by decide +kernel
theorem dX6_init_61 : decode cX6_init 61 = .ok (.sipush 147, 3) := by decide +kernel
theorem dX6_init_64 : decode cX6_init 64 = .ok (.newarray .int, 2) := by decide +kernel
theorem dX6_init_66 : decode cX6_init 66 = .ok (.putfield 31, 3) := by decide +kernel
theorem dX6_init_69 : decode cX6_init 69 = .ok (.aload_n 0, 1) := by decide +kernel
theorem dX6_init_70 : decode cX6_init 70 = .ok (.iconst 4, 1) := by decide +kernel
theorem dX6_init_71 : decode cX6_init 71 = .ok (.newarray .int, 2) := by decide +kernel
theorem dX6_init_73 : decode cX6_init 73 = .ok (.putfield 34, 3) := by decide +kernel
theorem dX6_init_76 : decode cX6_init 76 = .ok (.aload_n 0, 1) := by decide +kernel
theorem dX6_init_77 : decode cX6_init 77 = .ok (.iconst 4, 1) := by decide +kernel
theorem dX6_init_78 : decode cX6_init 78 = .ok (.newarray .int, 2) := by decide +kernel
theorem dX6_init_80 : decode cX6_init 80 = .ok (.putfield 37, 3) := by decide +kernel
theorem dX6_init_83 : decode cX6_init 83 = .ok (.aload_n 0, 1) := by decide +kernel
theorem dX6_init_84 : decode cX6_init 84 = .ok (.bipush 96, 2) := by decide +kernel
theorem dX6_init_86 : decode cX6_init 86 = .ok (.newarray .long, 2) := by decide +kernel
theorem dX6_init_88 : decode cX6_init 88 = .ok (.putfield 40, 3) := by decide +kernel
theorem dX6_init_91 : decode cX6_init 91 = .ok (.aload_n 0, 1) := by decide +kernel
theorem dX6_init_92 : decode cX6_init 92 = .ok (.bipush 24, 2) := by decide +kernel
theorem dX6_init_94 : decode cX6_init 94 = .ok (.newarray .long, 2) := by decide +kernel
theorem dX6_init_96 : decode cX6_init 96 = .ok (.putfield 44, 3) := by decide +kernel
theorem dX6_init_99 : decode cX6_init 99 = .ok (.aload_n 0, 1) := by decide +kernel
theorem dX6_init_100 : decode cX6_init 100 = .ok (.getfield 7, 3) := by decide +kernel
theorem dX6_init_103 : decode cX6_init 103 = .ok (.iconst 2, 1) := by decide +kernel
theorem dX6_init_104 : decode cX6_init 104 = .ok (.iconst 1, 1) := by decide +kernel
theorem dX6_init_105 : decode cX6_init 105 = .ok (.iastore, 1) := by decide +kernel
theorem dX6_init_106 : decode cX6_init 106 = .ok (.aload_n 0, 1) := by decide +kernel
theorem dX6_init_107 : decode cX6_init 107 = .ok (.getfield 7, 3) := by decide +kernel
theorem dX6_init_110 : decode cX6_init 110 = .ok (.iconst 3, 1) := by decide +kernel
theorem dX6_init_111 : decode cX6_init 111 = .ok (.iconst 2, 1) := by decide +kernel
theorem dX6_init_112 : decode cX6_init 112 = .ok (.iastore, 1) := by decide +kernel
theorem dX6_init_113 : decode cX6_init 113 = .ok (.aload_n 0, 1) := by decide +kernel
theorem dX6_init_114 : decode cX6_init 114 = .ok (.getfield 7, 3) := by decide +kernel
theorem dX6_init_117 : decode cX6_init 117 = .ok (.iconst 4, 1) := by decide +kernel
theorem dX6_init_118 : decode cX6_init 118 = .ok (.iconst 1, 1) := by decide +kernel
theorem dX6_init_119 : decode cX6_init 119 = .ok (.iastore, 1) := by decide +kernel
theorem dX6_init_120 : decode cX6_init 120 = .ok (.iconst 0, 1) := by decide +kernel
theorem dX6_init_121 : decode cX6_init 121 = .ok (.istore_n 1, 1) := by decide +kernel
theorem dX6_init_122 : decode cX6_init 122 = .ok (.iload_n 1, 1) := by decide +kernel
theorem dX6_init_123 : decode cX6_init 123 = .ok (.iconst 4, 1) := by decide +kernel
theorem dX6_init_124 : decode cX6_init 124 = .ok (.if_icmp .ge 16, 3) := by decide +kernel
theorem dX6_init_127 : decode cX6_init 127 = .ok (.aload_n 0, 1) := by decide +kernel
theorem dX6_init_128 : decode cX6_init 128 = .ok (.getfield 34, 3) := by decide +kernel
theorem dX6_init_131 : decode cX6_init 131 = .ok (.iload_n 1, 1) := by decide +kernel
theorem dX6_init_132 : decode cX6_init 132 = .ok (.iconst (-1), 1) := by decide +kernel
theorem dX6_init_133 : decode cX6_init 133 = .ok (.iastore, 1) := by decide +kernel
theorem dX6_init_134 : decode cX6_init 134 = .ok (.iinc 1 1, 3) := by decide +kernel
theorem dX6_init_137 : decode cX6_init 137 = .ok (.goto (-15), 3) := by decide +kernel
theorem dX6_init_140 : decode cX6_init 140 = .ok (.return_, 1) := by decide +kernel
set_option maxRecDepth 20000 in
theorem ggX6_isClerk_X6_in : GoodIn wsX6_isClerk wsX6_in := goodIn_r _ [5] (by decide +kernel) (by decide +kernel)
set_option maxRecDepth 20000 in
theorem gX6_isClerk_X6_in : GoodIn wsX6_isClerk (va_wsS RX6 47 yX6_in wsX6_in) := goodIn_app (goodIn_of _ (by decide +kernel)) ggX6_isClerk_X6_in
theorem dX6_isClerk_0 : decode cX6_isClerk 0 = .ok (.iload_n 1, 1) := by decide +kernel
theorem dX6_isClerk_1 : decode cX6_isClerk 1 = .ok (.i2l, 1) := by decide +kernel
theorem dX6_isClerk_2 : decode cX6_isClerk 2 = .ok (.lconst 0, 1) := by decide +kernel
theorem dX6_isClerk_3 : decode cX6_isClerk 3 = .ok (.aload_n 0, 1) := by decide +kernel
theorem dX6_isClerk_4 : decode cX6_isClerk 4 = .ok (.getfield 7, 3) := by decide +kernel
theorem dX6_isClerk_7 : decode cX6_isClerk 7 = .ok (.iconst 0, 1) := by decide +kernel
theorem dX6_isClerk_8 : decode cX6_isClerk 8 = .ok (.iaload, 1) := by decide +kernel
theorem dX6_isClerk_9 : decode cX6_isClerk 9 = .ok (.iconst 1, 1) := by decide +kernel
theorem dX6_isClerk_10 : decode cX6_isClerk 10 = .ok (.isub, 1) := by decide +kernel
theorem dX6_isClerk_11 : decode cX6_isClerk 11 = .ok (.i2l, 1) := by decide +kernel
theorem dX6_isClerk_12 : decode cX6_isClerk 12 = .ok (.invokestatic 47, 3) := by decide +kernel
theorem dX6_isClerk_15 : decode cX6_isClerk 15 = .ok (.ireturn, 1) := by decide +kernel
set_option maxRecDepth 20000 in
theorem ggX6_isDesk_X6_in : GoodIn wsX6_isDesk wsX6_in := goodIn_r _ [5] (by decide +kernel) (by decide +kernel)
set_option maxRecDepth 20000 in
theorem gX6_isDesk_X6_in : GoodIn wsX6_isDesk (va_wsS RX6 47 yX6_in wsX6_in) := goodIn_app (goodIn_of _ (by decide +kernel)) ggX6_isDesk_X6_in
theorem dX6_isDesk_0 : decode cX6_isDesk 0 = .ok (.iload_n 0, 1) := by decide +kernel
theorem dX6_isDesk_1 : decode cX6_isDesk 1 = .ok (.i2l, 1) := by decide +kernel
theorem dX6_isDesk_2 : decode cX6_isDesk 2 = .ok (.lconst 0, 1) := by decide +kernel
theorem dX6_isDesk_3 : decode cX6_isDesk 3 = .ok (.ldc2_w 51, 3) := by decide +kernel
theorem dX6_isDesk_6 : decode cX6_isDesk 6 = .ok (.invokestatic 47, 3) := by decide +kernel
theorem dX6_isDesk_9 : decode cX6_isDesk 9 = .ok (.ireturn, 1) := by decide +kernel
set_option maxRecDepth 20000 in
theorem ggX6_isForce_X6_in : GoodIn wsX6_isForce wsX6_in := goodIn_r _ [5] (by decide +kernel) (by decide +kernel)
set_option maxRecDepth 20000 in
theorem gX6_isForce_X6_in : GoodIn wsX6_isForce (va_wsS RX6 47 yX6_in wsX6_in) := goodIn_app (goodIn_of _ (by decide +kernel)) ggX6_isForce_X6_in
theorem dX6_isForce_0 : decode cX6_isForce 0 = .ok (.iload_n 0, 1) := by decide +kernel
theorem dX6_isForce_1 : decode cX6_isForce 1 = .ok (.i2l, 1) := by decide +kernel
theorem dX6_isForce_2 : decode cX6_isForce 2 = .ok (.lconst 0, 1) := by decide +kernel
theorem dX6_isForce_3 : decode cX6_isForce 3 = .ok (.ldc2_w 53, 3) := by decide +kernel
theorem dX6_isForce_6 : decode cX6_isForce 6 = .ok (.invokestatic 47, 3) := by decide +kernel
theorem dX6_isForce_9 : decode cX6_isForce 9 = .ok (.ireturn, 1) := by decide +kernel
theorem dX6_told_0 : decode cX6_told 0 = .ok (.aload_n 0, 1) := by decide +kernel
theorem dX6_told_1 : decode cX6_told 1 = .ok (.getfield 7, 3) := by decide +kernel
theorem dX6_told_4 : decode cX6_told 4 = .ok (.iconst 5, 1) := by decide +kernel
theorem dX6_told_5 : decode cX6_told 5 = .ok (.iconst 5, 1) := by decide +kernel
theorem dX6_told_6 : decode cX6_told 6 = .ok (.iload_n 1, 1) := by decide +kernel
theorem dX6_told_7 : decode cX6_told 7 = .ok (.imul, 1) := by decide +kernel
theorem dX6_told_8 : decode cX6_told 8 = .ok (.iadd, 1) := by decide +kernel
theorem dX6_told_9 : decode cX6_told 9 = .ok (.iload_n 2, 1) := by decide +kernel
theorem dX6_told_10 : decode cX6_told 10 = .ok (.iadd, 1) := by decide +kernel
theorem dX6_told_11 : decode cX6_told 11 = .ok (.iaload, 1) := by decide +kernel
theorem dX6_told_12 : decode cX6_told 12 = .ok (.ireturn, 1) := by decide +kernel
set_option maxRecDepth 20000 in
theorem ggX6_ash_X6_told : GoodIn wsX6_ash wsX6_told := goodIn_r _ [5, 6, 7, 8, 9, 10, 11, 12, 13, 14, 15, 16, 17, 18, 19, 20, 21, 22, 23, 24, 25, 26] (by decide +kernel) (by decide +kernel)
set_option maxRecDepth 20000 in
theorem gX6_ash_X6_told : GoodIn wsX6_ash (wsV RX6 55 RX6 yX6_told wsX6_told) := goodIn_app (goodIn_of _ (by decide +kernel)) ggX6_ash_X6_told
theorem dX6_ash_0 : decode cX6_ash 0 = .ok (.aload_n 0, 1) := by decide +kernel
theorem dX6_ash_1 : decode cX6_ash 1 = .ok (.iload_n 1, 1) := by decide +kernel
theorem dX6_ash_2 : decode cX6_ash 2 = .ok (.iconst 3, 1) := by decide +kernel
theorem dX6_ash_3 : decode cX6_ash 3 = .ok (.invokevirtual 55, 3) := by decide +kernel
theorem dX6_ash_6 : decode cX6_ash 6 = .ok (.ireturn, 1) := by decide +kernel
set_option maxRecDepth 20000 in
theorem ggX6_smokes_X6_told : GoodIn wsX6_smokes wsX6_told := goodIn_r _ [5, 6, 7, 8, 9, 10, 11, 12, 13, 14, 15, 16, 17, 18, 19, 20, 21, 22, 23, 24, 25, 26] (by decide +kernel) (by decide +kernel)
set_option maxRecDepth 20000 in
theorem gX6_smokes_X6_told : GoodIn wsX6_smokes (wsV RX6 55 RX6 yX6_told wsX6_told) := goodIn_app (goodIn_of _ (by decide +kernel)) ggX6_smokes_X6_told
theorem dX6_smokes_0 : decode cX6_smokes 0 = .ok (.aload_n 0, 1) := by decide +kernel
theorem dX6_smokes_1 : decode cX6_smokes 1 = .ok (.iload_n 1, 1) := by decide +kernel
theorem dX6_smokes_2 : decode cX6_smokes 2 = .ok (.iconst 4, 1) := by decide +kernel
theorem dX6_smokes_3 : decode cX6_smokes 3 = .ok (.invokevirtual 55, 3) := by decide +kernel
theorem dX6_smokes_6 : decode cX6_smokes 6 = .ok (.iconst 1, 1) := by decide +kernel
theorem dX6_smokes_7 : decode cX6_smokes 7 = .ok (.if_icmp .ne 7, 3) := by decide +kernel
theorem dX6_smokes_10 : decode cX6_smokes 10 = .ok (.iconst 1, 1) := by decide +kernel
theorem dX6_smokes_11 : decode cX6_smokes 11 = .ok (.goto 4, 3) := by decide +kernel
theorem dX6_smokes_14 : decode cX6_smokes 14 = .ok (.iconst 0, 1) := by decide +kernel
theorem dX6_smokes_15 : decode cX6_smokes 15 = .ok (.ireturn, 1) := by decide +kernel
set_option maxRecDepth 20000 in
theorem ggX6_holds_X6_smokes : GoodIn wsX6_holds wsX6_smokes := goodIn_r _ [6, 7, 8, 9, 5, 10, 1, 15, 16, 17, 18, 19, 20, 21, 22, 23, 24, 25, 26, 27, 28, 29, 30, 31, 32, 33, 34] (by decide +kernel) (by decide +kernel)
set_option maxRecDepth 20000 in
theorem gX6_holds_X6_smokes : GoodIn wsX6_holds (wsV RX6 59 RX6 yX6_smokes wsX6_smokes) := goodIn_app (goodIn_of _ (by decide +kernel)) ggX6_holds_X6_smokes
set_option maxRecDepth 20000 in
theorem ggX6_holds_X6_told : GoodIn wsX6_holds wsX6_told := goodIn_r _ [10, 1, 15, 16, 17, 18, 19, 20, 21, 22, 23, 24, 25, 26, 27, 28, 29, 30, 31, 32, 33, 34] (by decide +kernel) (by decide +kernel)
set_option maxRecDepth 20000 in
theorem gX6_holds_X6_told : GoodIn wsX6_holds (wsV RX6 55 RX6 yX6_told wsX6_told) := goodIn_app (goodIn_of _ (by decide +kernel)) ggX6_holds_X6_told
set_option maxRecDepth 20000 in
theorem ggX6_holds_X6_ash : GoodIn wsX6_holds wsX6_ash := goodIn_r _ [14, 7, 8, 9, 5, 10, 1, 15, 16, 17, 18, 19, 20, 21, 22, 23, 24, 25, 26, 27, 28, 29, 30, 31, 32, 33, 34] (by decide +kernel) (by decide +kernel)
set_option maxRecDepth 20000 in
theorem gX6_holds_X6_ash : GoodIn wsX6_holds (wsV RX6 63 RX6 yX6_ash wsX6_ash) := goodIn_app (goodIn_of _ (by decide +kernel)) ggX6_holds_X6_ash
theorem dX6_holds_0 : decode cX6_holds 0 = .ok (.aload_n 0, 1) := by decide +kernel
theorem dX6_holds_1 : decode cX6_holds 1 = .ok (.iload_n 1, 1) := by decide +kernel
theorem dX6_holds_2 : decode cX6_holds 2 = .ok (.invokevirtual 59, 3) := by decide +kernel
theorem dX6_holds_5 : decode cX6_holds 5 = .ok (.ifCond .ne 7, 3) := by decide +kernel
theorem dX6_holds_8 : decode cX6_holds 8 = .ok (.sipush 1000, 3) := by decide +kernel
theorem dX6_holds_11 : decode cX6_holds 11 = .ok (.ireturn, 1) := by decide +kernel
theorem dX6_holds_12 : decode cX6_holds 12 = .ok (.iconst 3, 1) := by decide +kernel
theorem dX6_holds_13 : decode cX6_holds 13 = .ok (.aload_n 0, 1) := by decide +kernel
theorem dX6_holds_14 : decode cX6_holds 14 = .ok (.iload_n 1, 1) := by decide +kernel
theorem dX6_holds_15 : decode cX6_holds 15 = .ok (.iconst 2, 1) := by decide +kernel
theorem dX6_holds_16 : decode cX6_holds 16 = .ok (.invokevirtual 55, 3) := by decide +kernel
theorem dX6_holds_19 : decode cX6_holds 19 = .ok (.imul, 1) := by decide +kernel
theorem dX6_holds_20 : decode cX6_holds 20 = .ok (.aload_n 0, 1) := by decide +kernel
theorem dX6_holds_21 : decode cX6_holds 21 = .ok (.iload_n 1, 1) := by decide +kernel
theorem dX6_holds_22 : decode cX6_holds 22 = .ok (.invokevirtual 63, 3) := by decide +kernel
theorem dX6_holds_25 : decode cX6_holds 25 = .ok (.bipush 10, 2) := by decide +kernel
theorem dX6_holds_27 : decode cX6_holds 27 = .ok (.idiv, 1) := by decide +kernel
theorem dX6_holds_28 : decode cX6_holds 28 = .ok (.isub, 1) := by decide +kernel
theorem dX6_holds_29 : decode cX6_holds 29 = .ok (.istore_n 2, 1) := by decide +kernel
theorem dX6_holds_30 : decode cX6_holds 30 = .ok (.iload_n 2, 1) := by decide +kernel
theorem dX6_holds_31 : decode cX6_holds 31 = .ok (.ifCond .ge 7, 3) := by decide +kernel
theorem dX6_holds_34 : decode cX6_holds 34 = .ok (.iconst 0, 1) := by decide +kernel
theorem dX6_holds_35 : decode cX6_holds 35 = .ok (.goto 4, 3) := by decide +kernel
theorem dX6_holds_38 : decode cX6_holds 38 = .ok (.iload_n 2, 1) := by decide +kernel
theorem dX6_holds_39 : decode cX6_holds 39 = .ok (.istore_n 2, 1) := by decide +kernel
theorem dX6_holds_40 : decode cX6_holds 40 = .ok (.iload_n 2, 1) := by decide +kernel
theorem dX6_holds_41 : decode cX6_holds 41 = .ok (.iconst 3, 1) := by decide +kernel
theorem dX6_holds_42 : decode cX6_holds 42 = .ok (.if_icmp .ge 7, 3) := by decide +kernel
theorem dX6_holds_45 : decode cX6_holds 45 = .ok (.iconst 0, 1) := by decide +kernel
theorem dX6_holds_46 : decode cX6_holds 46 = .ok (.goto 6, 3) := by decide +kernel
theorem dX6_holds_49 : decode cX6_holds 49 = .ok (.iload_n 2, 1) := by decide +kernel
theorem dX6_holds_50 : decode cX6_holds 50 = .ok (.iconst 3, 1) := by decide +kernel
theorem dX6_holds_51 : decode cX6_holds 51 = .ok (.isub, 1) := by decide +kernel
theorem dX6_holds_52 : decode cX6_holds 52 = .ok (.istore_n 3, 1) := by decide +kernel
theorem dX6_holds_53 : decode cX6_holds 53 = .ok (.aload_n 0, 1) := by decide +kernel
theorem dX6_holds_54 : decode cX6_holds 54 = .ok (.iload_n 1, 1) := by decide +kernel
theorem dX6_holds_55 : decode cX6_holds 55 = .ok (.iconst 0, 1) := by decide +kernel
theorem dX6_holds_56 : decode cX6_holds 56 = .ok (.invokevirtual 55, 3) := by decide +kernel
theorem dX6_holds_59 : decode cX6_holds 59 = .ok (.tableswitch 51 0 3 #[29, 31, 51, 33], 29) := by decide +kernel
theorem dX6_holds_88 : decode cX6_holds 88 = .ok (.iload_n 2, 1) := by decide +kernel
theorem dX6_holds_89 : decode cX6_holds 89 = .ok (.ireturn, 1) := by decide +kernel
theorem dX6_holds_90 : decode cX6_holds 90 = .ok (.iload_n 3, 1) := by decide +kernel
theorem dX6_holds_91 : decode cX6_holds 91 = .ok (.ireturn, 1) := by decide +kernel
theorem dX6_holds_92 : decode cX6_holds 92 = .ok (.aload_n 0, 1) := by decide +kernel
theorem dX6_holds_93 : decode cX6_holds 93 = .ok (.getfield 7, 3) := by decide +kernel
theorem dX6_holds_96 : decode cX6_holds 96 = .ok (.iconst 1, 1) := by decide +kernel
theorem dX6_holds_97 : decode cX6_holds 97 = .ok (.iaload, 1) := by decide +kernel
theorem dX6_holds_98 : decode cX6_holds 98 = .ok (.bipush 10, 2) := by decide +kernel
theorem dX6_holds_100 : decode cX6_holds 100 = .ok (.irem, 1) := by decide +kernel
theorem dX6_holds_101 : decode cX6_holds 101 = .ok (.ifCond .ne 7, 3) := by decide +kernel
theorem dX6_holds_104 : decode cX6_holds 104 = .ok (.iconst 0, 1) := by decide +kernel
theorem dX6_holds_105 : decode cX6_holds 105 = .ok (.goto 4, 3) := by decide +kernel
theorem dX6_holds_108 : decode cX6_holds 108 = .ok (.iload_n 3, 1) := by decide +kernel
theorem dX6_holds_109 : decode cX6_holds 109 = .ok (.ireturn, 1) := by decide +kernel
theorem dX6_holds_110 : decode cX6_holds 110 = .ok (.iload_n 2, 1) := by decide +kernel
theorem dX6_holds_111 : decode cX6_holds 111 = .ok (.iconst 5, 1) := by decide +kernel
theorem dX6_holds_112 : decode cX6_holds 112 = .ok (.iadd, 1) := by decide +kernel
theorem dX6_holds_113 : decode cX6_holds 113 = .ok (.ireturn, 1) := by decide +kernel
set_option maxRecDepth 20000 in
theorem ggX6_allAsh_X6_ash : GoodIn wsX6_allAsh wsX6_ash := goodIn_r _ [6, 7, 8, 9, 5, 10, 1, 11, 12, 13, 14, 15, 16, 17, 18, 19, 20, 21, 22, 23, 24, 25, 26, 27, 28, 29, 30] (by decide +kernel) (by decide +kernel)
set_option maxRecDepth 20000 in
theorem gX6_allAsh_X6_ash : GoodIn wsX6_allAsh (wsV RX6 63 RX6 yX6_ash wsX6_ash) := goodIn_app (goodIn_of _ (by decide +kernel)) ggX6_allAsh_X6_ash
theorem dX6_allAsh_0 : decode cX6_allAsh 0 = .ok (.iconst 0, 1) := by decide +kernel
theorem dX6_allAsh_1 : decode cX6_allAsh 1 = .ok (.istore_n 1, 1) := by decide +kernel
theorem dX6_allAsh_2 : decode cX6_allAsh 2 = .ok (.iconst 0, 1) := by decide +kernel
theorem dX6_allAsh_3 : decode cX6_allAsh 3 = .ok (.istore_n 2, 1) := by decide +kernel
theorem dX6_allAsh_4 : decode cX6_allAsh 4 = .ok (.iload_n 2, 1) := by decide +kernel
theorem dX6_allAsh_5 : decode cX6_allAsh 5 = .ok (.aload_n 0, 1) := by decide +kernel
theorem dX6_allAsh_6 : decode cX6_allAsh 6 = .ok (.getfield 7, 3) := by decide +kernel
theorem dX6_allAsh_9 : decode cX6_allAsh 9 = .ok (.iconst 0, 1) := by decide +kernel
theorem dX6_allAsh_10 : decode cX6_allAsh 10 = .ok (.iaload, 1) := by decide +kernel
theorem dX6_allAsh_11 : decode cX6_allAsh 11 = .ok (.if_icmp .ge 17, 3) := by decide +kernel
theorem dX6_allAsh_14 : decode cX6_allAsh 14 = .ok (.iload_n 1, 1) := by decide +kernel
theorem dX6_allAsh_15 : decode cX6_allAsh 15 = .ok (.aload_n 0, 1) := by decide +kernel
theorem dX6_allAsh_16 : decode cX6_allAsh 16 = .ok (.iload_n 2, 1) := by decide +kernel
theorem dX6_allAsh_17 : decode cX6_allAsh 17 = .ok (.invokevirtual 63, 3) := by decide +kernel
theorem dX6_allAsh_20 : decode cX6_allAsh 20 = .ok (.iadd, 1) := by decide +kernel
theorem dX6_allAsh_21 : decode cX6_allAsh 21 = .ok (.istore_n 1, 1) := by decide +kernel
theorem dX6_allAsh_22 : decode cX6_allAsh 22 = .ok (.iinc 2 1, 3) := by decide +kernel
theorem dX6_allAsh_25 : decode cX6_allAsh 25 = .ok (.goto (-21), 3) := by decide +kernel
theorem dX6_allAsh_28 : decode cX6_allAsh 28 = .ok (.iload_n 1, 1) := by decide +kernel
theorem dX6_allAsh_29 : decode cX6_allAsh 29 = .ok (.ireturn, 1) := by decide +kernel
set_option maxRecDepth 20000 in
theorem ggX6_payOfAll_X6_allAsh : GoodIn wsX6_payOfAll wsX6_allAsh := goodIn_r _ [6, 1, 7, 8, 9, 5, 10, 11, 12, 13, 14, 15, 16, 17, 18, 19, 20, 21, 22, 23, 24, 25, 26, 27, 28, 29, 30, 31, 32, 33, 34] (by decide +kernel) (by decide +kernel)
set_option maxRecDepth 20000 in
theorem gX6_payOfAll_X6_allAsh : GoodIn wsX6_payOfAll (wsV RX6 67 RX6 yX6_allAsh wsX6_allAsh) := goodIn_app (goodIn_of _ (by decide +kernel)) ggX6_payOfAll_X6_allAsh
theorem dX6_payOfAll_0 : decode cX6_payOfAll 0 = .ok (.aload_n 0, 1) := by decide +kernel
theorem dX6_payOfAll_1 : decode cX6_payOfAll 1 = .ok (.getfield 7, 3) := by decide +kernel
theorem dX6_payOfAll_4 : decode cX6_payOfAll 4 = .ok (.iconst 2, 1) := by decide +kernel
theorem dX6_payOfAll_5 : decode cX6_payOfAll 5 = .ok (.iaload, 1) := by decide +kernel
theorem dX6_payOfAll_6 : decode cX6_payOfAll 6 = .ok (.aload_n 0, 1) := by decide +kernel
theorem dX6_payOfAll_7 : decode cX6_payOfAll 7 = .ok (.invokevirtual 67, 3) := by decide +kernel
theorem dX6_payOfAll_10 : decode cX6_payOfAll 10 = .ok (.imul, 1) := by decide +kernel
theorem dX6_payOfAll_11 : decode cX6_payOfAll 11 = .ok (.ireturn, 1) := by decide +kernel
theorem dX6_many_0 : decode cX6_many 0 = .ok (.iconst 0, 1) := by decide +kernel
theorem dX6_many_1 : decode cX6_many 1 = .ok (.istore_n 1, 1) := by decide +kernel
theorem dX6_many_2 : decode cX6_many 2 = .ok (.iload_n 0, 1) := by decide +kernel
theorem dX6_many_3 : decode cX6_many 3 = .ok (.istore_n 2, 1) := by decide +kernel
theorem dX6_many_4 : decode cX6_many 4 = .ok (.iload_n 2, 1) := by decide +kernel
theorem dX6_many_5 : decode cX6_many 5 = .ok (.ifCond .eq 15, 3) := by decide +kernel
theorem dX6_many_8 : decode cX6_many 8 = .ok (.iinc 1 1, 3) := by decide +kernel
theorem dX6_many_11 : decode cX6_many 11 = .ok (.iload_n 2, 1) := by decide +kernel
theorem dX6_many_12 : decode cX6_many 12 = .ok (.iload_n 2, 1) := by decide +kernel
theorem dX6_many_13 : decode cX6_many 13 = .ok (.iconst 1, 1) := by decide +kernel
theorem dX6_many_14 : decode cX6_many 14 = .ok (.isub, 1) := by decide +kernel
theorem dX6_many_15 : decode cX6_many 15 = .ok (.iand, 1) := by decide +kernel
theorem dX6_many_16 : decode cX6_many 16 = .ok (.istore_n 2, 1) := by decide +kernel
theorem dX6_many_17 : decode cX6_many 17 = .ok (.goto (-13), 3) := by decide +kernel
theorem dX6_many_20 : decode cX6_many 20 = .ok (.iload_n 1, 1) := by decide +kernel
theorem dX6_many_21 : decode cX6_many 21 = .ok (.ireturn, 1) := by decide +kernel
set_option maxRecDepth 20000 in
theorem ggX6_goesBy_X6_smokes : GoodIn wsX6_goesBy wsX6_smokes := goodIn_r _ [6, 7, 8, 9, 5, 10, 1, 15, 16, 17, 18, 19, 20, 21, 22, 23, 24, 25, 26, 27, 28, 29, 30, 31, 32, 33, 34] (by decide +kernel) (by decide +kernel)
set_option maxRecDepth 20000 in
theorem gX6_goesBy_X6_smokes : GoodIn wsX6_goesBy (wsV RX6 59 RX6 yX6_smokes wsX6_smokes) := goodIn_app (goodIn_of _ (by decide +kernel)) ggX6_goesBy_X6_smokes
set_option maxRecDepth 20000 in
theorem ggX6_goesBy_X6_told : GoodIn wsX6_goesBy wsX6_told := goodIn_r _ [10, 1, 15, 16, 17, 18, 19, 20, 21, 22, 23, 24, 25, 26, 27, 28, 29, 30, 31, 32, 33, 34] (by decide +kernel) (by decide +kernel)
set_option maxRecDepth 20000 in
theorem gX6_goesBy_X6_told : GoodIn wsX6_goesBy (wsV RX6 55 RX6 yX6_told wsX6_told) := goodIn_app (goodIn_of _ (by decide +kernel)) ggX6_goesBy_X6_told
set_option maxRecDepth 20000 in
theorem ggX6_goesBy_X6_ash : GoodIn wsX6_goesBy wsX6_ash := goodIn_r _ [14, 7, 8, 9, 5, 10, 1, 15, 16, 17, 18, 19, 20, 21, 22, 23, 24, 25, 26, 27, 28, 29, 30, 31, 32, 33, 34] (by decide +kernel) (by decide +kernel)
set_option maxRecDepth 20000 in
theorem gX6_goesBy_X6_ash : GoodIn wsX6_goesBy (wsV RX6 63 RX6 yX6_ash wsX6_ash) := goodIn_app (goodIn_of _ (by decide +kernel)) ggX6_goesBy_X6_ash
theorem dX6_goesBy_0 : decode cX6_goesBy 0 = .ok (.iconst 0, 1) := by decide +kernel
theorem dX6_goesBy_1 : decode cX6_goesBy 1 = .ok (.istore_n 1, 1) := by decide +kernel
theorem dX6_goesBy_2 : decode cX6_goesBy 2 = .ok (.iload_n 1, 1) := by decide +kernel
theorem dX6_goesBy_3 : decode cX6_goesBy 3 = .ok (.aload_n 0, 1) := by decide +kernel
theorem dX6_goesBy_4 : decode cX6_goesBy 4 = .ok (.getfield 7, 3) := by decide +kernel
theorem dX6_goesBy_7 : decode cX6_goesBy 7 = .ok (.iconst 0, 1) := by decide +kernel
theorem dX6_goesBy_8 : decode cX6_goesBy 8 = .ok (.iaload, 1) := by decide +kernel
theorem dX6_goesBy_9 : decode cX6_goesBy 9 = .ok (.if_icmp .ge 81, 3) := by decide +kernel
theorem dX6_goesBy_12 : decode cX6_goesBy 12 = .ok (.aload_n 0, 1) := by decide +kernel
theorem dX6_goesBy_13 : decode cX6_goesBy 13 = .ok (.iload_n 1, 1) := by decide +kernel
theorem dX6_goesBy_14 : decode cX6_goesBy 14 = .ok (.invokevirtual 59, 3) := by decide +kernel
theorem dX6_goesBy_17 : decode cX6_goesBy 17 = .ok (.ifCond .eq 25, 3) := by decide +kernel
theorem dX6_goesBy_20 : decode cX6_goesBy 20 = .ok (.aload_n 0, 1) := by decide +kernel
theorem dX6_goesBy_21 : decode cX6_goesBy 21 = .ok (.iload_n 1, 1) := by decide +kernel
theorem dX6_goesBy_22 : decode cX6_goesBy 22 = .ok (.iconst 0, 1) := by decide +kernel
theorem dX6_goesBy_23 : decode cX6_goesBy 23 = .ok (.invokevirtual 55, 3) := by decide +kernel
theorem dX6_goesBy_26 : decode cX6_goesBy 26 = .ok (.iconst 4, 1) := by decide +kernel
theorem dX6_goesBy_27 : decode cX6_goesBy 27 = .ok (.if_icmp .ne 19, 3) := by decide +kernel
theorem dX6_goesBy_30 : decode cX6_goesBy 30 = .ok (.aload_n 0, 1) := by decide +kernel
theorem dX6_goesBy_31 : decode cX6_goesBy 31 = .ok (.getfield 7, 3) := by decide +kernel
theorem dX6_goesBy_34 : decode cX6_goesBy 34 = .ok (.iconst 1, 1) := by decide +kernel
theorem dX6_goesBy_35 : decode cX6_goesBy 35 = .ok (.iaload, 1) := by decide +kernel
theorem dX6_goesBy_36 : decode cX6_goesBy 36 = .ok (.iconst 2, 1) := by decide +kernel
theorem dX6_goesBy_37 : decode cX6_goesBy 37 = .ok (.irem, 1) := by decide +kernel
theorem dX6_goesBy_38 : decode cX6_goesBy 38 = .ok (.iconst 1, 1) := by decide +kernel
theorem dX6_goesBy_39 : decode cX6_goesBy 39 = .ok (.if_icmp .ne 7, 3) := by decide +kernel
theorem dX6_goesBy_42 : decode cX6_goesBy 42 = .ok (.iconst 0, 1) := by decide +kernel
theorem dX6_goesBy_43 : decode cX6_goesBy 43 = .ok (.goto 4, 3) := by decide +kernel
theorem dX6_goesBy_46 : decode cX6_goesBy 46 = .ok (.iconst 1, 1) := by decide +kernel
theorem dX6_goesBy_47 : decode cX6_goesBy 47 = .ok (.istore_n 2, 1) := by decide +kernel
theorem dX6_goesBy_48 : decode cX6_goesBy 48 = .ok (.aload_n 0, 1) := by decide +kernel
theorem dX6_goesBy_49 : decode cX6_goesBy 49 = .ok (.getfield 7, 3) := by decide +kernel
theorem dX6_goesBy_52 : decode cX6_goesBy 52 = .ok (.iconst 5, 1) := by decide +kernel
theorem dX6_goesBy_53 : decode cX6_goesBy 53 = .ok (.iconst 5, 1) := by decide +kernel
theorem dX6_goesBy_54 : decode cX6_goesBy 54 = .ok (.iload_n 1, 1) := by decide +kernel
theorem dX6_goesBy_55 : decode cX6_goesBy 55 = .ok (.imul, 1) := by decide +kernel
theorem dX6_goesBy_56 : decode cX6_goesBy 56 = .ok (.iadd, 1) := by decide +kernel
theorem dX6_goesBy_57 : decode cX6_goesBy 57 = .ok (.iconst 3, 1) := by decide +kernel
theorem dX6_goesBy_58 : decode cX6_goesBy 58 = .ok (.iadd, 1) := by decide +kernel
theorem dX6_goesBy_59 : decode cX6_goesBy 59 = .ok (.aload_n 0, 1) := by decide +kernel
theorem dX6_goesBy_60 : decode cX6_goesBy 60 = .ok (.iload_n 1, 1) := by decide +kernel
theorem dX6_goesBy_61 : decode cX6_goesBy 61 = .ok (.invokevirtual 63, 3) := by decide +kernel
theorem dX6_goesBy_64 : decode cX6_goesBy 64 = .ok (.iload_n 2, 1) := by decide +kernel
theorem dX6_goesBy_65 : decode cX6_goesBy 65 = .ok (.iadd, 1) := by decide +kernel
theorem dX6_goesBy_66 : decode cX6_goesBy 66 = .ok (.bipush 99, 2) := by decide +kernel
theorem dX6_goesBy_68 : decode cX6_goesBy 68 = .ok (.if_icmp .le 8, 3) := by decide +kernel
theorem dX6_goesBy_71 : decode cX6_goesBy 71 = .ok (.bipush 99, 2) := by decide +kernel
theorem dX6_goesBy_73 : decode cX6_goesBy 73 = .ok (.goto 10, 3) := by decide +kernel
theorem dX6_goesBy_76 : decode cX6_goesBy 76 = .ok (.aload_n 0, 1) := by decide +kernel
theorem dX6_goesBy_77 : decode cX6_goesBy 77 = .ok (.iload_n 1, 1) := by decide +kernel
theorem dX6_goesBy_78 : decode cX6_goesBy 78 = .ok (.invokevirtual 63, 3) := by decide +kernel
theorem dX6_goesBy_81 : decode cX6_goesBy 81 = .ok (.iload_n 2, 1) := by decide +kernel
theorem dX6_goesBy_82 : decode cX6_goesBy 82 = .ok (.iadd, 1) := by decide +kernel
theorem dX6_goesBy_83 : decode cX6_goesBy 83 = .ok (.iastore, 1) := by decide +kernel
theorem dX6_goesBy_84 : decode cX6_goesBy 84 = .ok (.iinc 1 1, 3) := by decide +kernel
theorem dX6_goesBy_87 : decode cX6_goesBy 87 = .ok (.goto (-85), 3) := by decide +kernel
theorem dX6_goesBy_90 : decode cX6_goesBy 90 = .ok (.aload_n 0, 1) := by decide +kernel
theorem dX6_goesBy_91 : decode cX6_goesBy 91 = .ok (.getfield 7, 3) := by decide +kernel
theorem dX6_goesBy_94 : decode cX6_goesBy 94 = .ok (.iconst 1, 1) := by decide +kernel
theorem dX6_goesBy_95 : decode cX6_goesBy 95 = .ok (.dup2, 1) := by decide +kernel
theorem dX6_goesBy_96 : decode cX6_goesBy 96 = .ok (.iaload, 1) := by decide +kernel
theorem dX6_goesBy_97 : decode cX6_goesBy 97 = .ok (.iconst 1, 1) := by decide +kernel
theorem dX6_goesBy_98 : decode cX6_goesBy 98 = .ok (.iadd, 1) := by decide +kernel
theorem dX6_goesBy_99 : decode cX6_goesBy 99 = .ok (.iastore, 1) := by decide +kernel
theorem dX6_goesBy_100 : decode cX6_goesBy 100 = .ok (.return_, 1) := by decide +kernel
set_option maxRecDepth 20000 in
theorem ggX6_shakesOnce_X6_told : GoodIn wsX6_shakesOnce wsX6_told := goodIn_r _ [8, 1, 21, 22, 23, 24, 25, 26, 27, 28, 29, 30, 31, 32, 33, 34, 35, 36, 37, 38, 39, 40] (by decide +kernel) (by decide +kernel)
set_option maxRecDepth 20000 in
theorem gX6_shakesOnce_X6_told : GoodIn wsX6_shakesOnce (wsV RX6 55 RX6 yX6_told wsX6_told) := goodIn_app (goodIn_of _ (by decide +kernel)) ggX6_shakesOnce_X6_told
set_option maxRecDepth 20000 in
theorem ggX6_shakesOnce_X6_ash : GoodIn wsX6_shakesOnce wsX6_ash := goodIn_r _ [12, 4, 5, 6, 7, 8, 1, 21, 22, 23, 24, 25, 26, 27, 28, 29, 30, 31, 32, 33, 34, 35, 36, 37, 38, 39, 40] (by decide +kernel) (by decide +kernel)
set_option maxRecDepth 20000 in
theorem gX6_shakesOnce_X6_ash : GoodIn wsX6_shakesOnce (wsV RX6 63 RX6 yX6_ash wsX6_ash) := goodIn_app (goodIn_of _ (by decide +kernel)) ggX6_shakesOnce_X6_ash
set_option maxRecDepth 20000 in
theorem ggX6_shakesOnce_X6_holds : GoodIn wsX6_shakesOnce wsX6_holds := goodIn_r _ [16, 1, 17, 18, 19, 7, 20, 4, 5, 6, 8, 9, 10, 11, 12, 21, 22, 23, 24, 25, 26, 27, 28, 29, 30, 31, 32, 33, 34, 35, 36, 37, 38, 39, 40] (by decide +kernel) (by decide +kernel)
set_option maxRecDepth 20000 in
theorem gX6_shakesOnce_X6_holds : GoodIn wsX6_shakesOnce (wsV RX6 71 RX6 yX6_holds wsX6_holds) := goodIn_app (goodIn_of _ (by decide +kernel)) ggX6_shakesOnce_X6_holds
theorem dX6_shakesOnce_0 : decode cX6_shakesOnce 0 = .ok (.iconst 0, 1) := by decide +kernel
theorem dX6_shakesOnce_1 : decode cX6_shakesOnce 1 = .ok (.istore_n 3, 1) := by decide +kernel
theorem dX6_shakesOnce_2 : decode cX6_shakesOnce 2 = .ok (.iconst 0, 1) := by decide +kernel
theorem dX6_shakesOnce_3 : decode cX6_shakesOnce 3 = .ok (.istore 4, 2) := by decide +kernel
theorem dX6_shakesOnce_5 : decode cX6_shakesOnce 5 = .ok (.iload 4, 2) := by decide +kernel
theorem dX6_shakesOnce_7 : decode cX6_shakesOnce 7 = .ok (.aload_n 0, 1) := by decide +kernel
theorem dX6_shakesOnce_8 : decode cX6_shakesOnce 8 = .ok (.getfield 7, 3) := by decide +kernel
theorem dX6_shakesOnce_11 : decode cX6_shakesOnce 11 = .ok (.iconst 0, 1) := by decide +kernel
theorem dX6_shakesOnce_12 : decode cX6_shakesOnce 12 = .ok (.iaload, 1) := by decide +kernel
theorem dX6_shakesOnce_13 : decode cX6_shakesOnce 13 = .ok (.if_icmp .ge 87, 3) := by decide +kernel
theorem dX6_shakesOnce_16 : decode cX6_shakesOnce 16 = .ok (.aload_n 0, 1) := by decide +kernel
theorem dX6_shakesOnce_17 : decode cX6_shakesOnce 17 = .ok (.iload 4, 2) := by decide +kernel
theorem dX6_shakesOnce_19 : decode cX6_shakesOnce 19 = .ok (.iconst 1, 1) := by decide +kernel
theorem dX6_shakesOnce_20 : decode cX6_shakesOnce 20 = .ok (.invokevirtual 55, 3) := by decide +kernel
theorem dX6_shakesOnce_23 : decode cX6_shakesOnce 23 = .ok (.iload_n 1, 1) := by decide +kernel
theorem dX6_shakesOnce_24 : decode cX6_shakesOnce 24 = .ok (.if_icmp .ge 15, 3) := by decide +kernel
theorem dX6_shakesOnce_27 : decode cX6_shakesOnce 27 = .ok (.iload_n 1, 1) := by decide +kernel
theorem dX6_shakesOnce_28 : decode cX6_shakesOnce 28 = .ok (.aload_n 0, 1) := by decide +kernel
theorem dX6_shakesOnce_29 : decode cX6_shakesOnce 29 = .ok (.iload 4, 2) := by decide +kernel
theorem dX6_shakesOnce_31 : decode cX6_shakesOnce 31 = .ok (.iconst 1, 1) := by decide +kernel
theorem dX6_shakesOnce_32 : decode cX6_shakesOnce 32 = .ok (.invokevirtual 55, 3) := by decide +kernel
theorem dX6_shakesOnce_35 : decode cX6_shakesOnce 35 = .ok (.isub, 1) := by decide +kernel
theorem dX6_shakesOnce_36 : decode cX6_shakesOnce 36 = .ok (.goto 12, 3) := by decide +kernel
theorem dX6_shakesOnce_39 : decode cX6_shakesOnce 39 = .ok (.aload_n 0, 1) := by decide +kernel
theorem dX6_shakesOnce_40 : decode cX6_shakesOnce 40 = .ok (.iload 4, 2) := by decide +kernel
theorem dX6_shakesOnce_42 : decode cX6_shakesOnce 42 = .ok (.iconst 1, 1) := by decide +kernel
theorem dX6_shakesOnce_43 : decode cX6_shakesOnce 43 = .ok (.invokevirtual 55, 3) := by decide +kernel
theorem dX6_shakesOnce_46 : decode cX6_shakesOnce 46 = .ok (.iload_n 1, 1) := by decide +kernel
theorem dX6_shakesOnce_47 : decode cX6_shakesOnce 47 = .ok (.isub, 1) := by decide +kernel
theorem dX6_shakesOnce_48 : decode cX6_shakesOnce 48 = .ok (.istore 5, 2) := by decide +kernel
theorem dX6_shakesOnce_50 : decode cX6_shakesOnce 50 = .ok (.iload_n 2, 1) := by decide +kernel
theorem dX6_shakesOnce_51 : decode cX6_shakesOnce 51 = .ok (.iconst 2, 1) := by decide +kernel
theorem dX6_shakesOnce_52 : decode cX6_shakesOnce 52 = .ok (.iload 5, 2) := by decide +kernel
theorem dX6_shakesOnce_54 : decode cX6_shakesOnce 54 = .ok (.imul, 1) := by decide +kernel
theorem dX6_shakesOnce_55 : decode cX6_shakesOnce 55 = .ok (.isub, 1) := by decide +kernel
theorem dX6_shakesOnce_56 : decode cX6_shakesOnce 56 = .ok (.istore 6, 2) := by decide +kernel
theorem dX6_shakesOnce_58 : decode cX6_shakesOnce 58 = .ok (.iload_n 3, 1) := by decide +kernel
theorem dX6_shakesOnce_59 : decode cX6_shakesOnce 59 = .ok (.iload 6, 2) := by decide +kernel
theorem dX6_shakesOnce_61 : decode cX6_shakesOnce 61 = .ok (.ifCond .le 30, 3) := by decide +kernel
theorem dX6_shakesOnce_64 : decode cX6_shakesOnce 64 = .ok (.aload_n 0, 1) := by decide +kernel
theorem dX6_shakesOnce_65 : decode cX6_shakesOnce 65 = .ok (.iload 4, 2) := by decide +kernel
theorem dX6_shakesOnce_67 : decode cX6_shakesOnce 67 = .ok (.invokevirtual 63, 3) := by decide +kernel
theorem dX6_shakesOnce_70 : decode cX6_shakesOnce 70 = .ok (.ifCond .le 21, 3) := by decide +kernel
theorem dX6_shakesOnce_73 : decode cX6_shakesOnce 73 = .ok (.iload 6, 2) := by decide +kernel
theorem dX6_shakesOnce_75 : decode cX6_shakesOnce 75 = .ok (.aload_n 0, 1) := by decide +kernel
theorem dX6_shakesOnce_76 : decode cX6_shakesOnce 76 = .ok (.iload 4, 2) := by decide +kernel
theorem dX6_shakesOnce_78 : decode cX6_shakesOnce 78 = .ok (.invokevirtual 71, 3) := by decide +kernel
theorem dX6_shakesOnce_81 : decode cX6_shakesOnce 81 = .ok (.if_icmp .le 10, 3) := by decide +kernel
theorem dX6_shakesOnce_84 : decode cX6_shakesOnce 84 = .ok (.iconst 1, 1) := by decide +kernel
theorem dX6_shakesOnce_85 : decode cX6_shakesOnce 85 = .ok (.iload 4, 2) := by decide +kernel
theorem dX6_shakesOnce_87 : decode cX6_shakesOnce 87 = .ok (.ishl, 1) := by decide +kernel
theorem dX6_shakesOnce_88 : decode cX6_shakesOnce 88 = .ok (.goto 4, 3) := by decide +kernel
theorem dX6_shakesOnce_91 : decode cX6_shakesOnce 91 = .ok (.iconst 0, 1) := by decide +kernel
theorem dX6_shakesOnce_92 : decode cX6_shakesOnce 92 = .ok (.ior, 1) := by decide +kernel
theorem dX6_shakesOnce_93 : decode cX6_shakesOnce 93 = .ok (.istore_n 3, 1) := by decide +kernel
theorem dX6_shakesOnce_94 : decode cX6_shakesOnce 94 = .ok (.iinc 4 1, 3) := by decide +kernel
theorem dX6_shakesOnce_97 : decode cX6_shakesOnce 97 = .ok (.goto (-92), 3) := by decide +kernel
theorem dX6_shakesOnce_100 : decode cX6_shakesOnce 100 = .ok (.iconst 0, 1) := by decide +kernel
theorem dX6_shakesOnce_101 : decode cX6_shakesOnce 101 = .ok (.istore 4, 2) := by decide +kernel
theorem dX6_shakesOnce_103 : decode cX6_shakesOnce 103 = .ok (.iload 4, 2) := by decide +kernel
theorem dX6_shakesOnce_105 : decode cX6_shakesOnce 105 = .ok (.aload_n 0, 1) := by decide +kernel
theorem dX6_shakesOnce_106 : decode cX6_shakesOnce 106 = .ok (.getfield 7, 3) := by decide +kernel
theorem dX6_shakesOnce_109 : decode cX6_shakesOnce 109 = .ok (.iconst 0, 1) := by decide +kernel
theorem dX6_shakesOnce_110 : decode cX6_shakesOnce 110 = .ok (.iaload, 1) := by decide +kernel
theorem dX6_shakesOnce_111 : decode cX6_shakesOnce 111 = .ok (.if_icmp .ge 65, 3) := by decide +kernel
theorem dX6_shakesOnce_114 : decode cX6_shakesOnce 114 = .ok (.iload_n 3, 1) := by decide +kernel
theorem dX6_shakesOnce_115 : decode cX6_shakesOnce 115 = .ok (.iload 4, 2) := by decide +kernel
theorem dX6_shakesOnce_117 : decode cX6_shakesOnce 117 = .ok (.ishr, 1) := by decide +kernel
theorem dX6_shakesOnce_118 : decode cX6_shakesOnce 118 = .ok (.iconst 1, 1) := by decide +kernel
theorem dX6_shakesOnce_119 : decode cX6_shakesOnce 119 = .ok (.iand, 1) := by decide +kernel
theorem dX6_shakesOnce_120 : decode cX6_shakesOnce 120 = .ok (.iconst 1, 1) := by decide +kernel
theorem dX6_shakesOnce_121 : decode cX6_shakesOnce 121 = .ok (.if_icmp .ne 49, 3) := by decide +kernel
theorem dX6_shakesOnce_124 : decode cX6_shakesOnce 124 = .ok (.aload_n 0, 1) := by decide +kernel
theorem dX6_shakesOnce_125 : decode cX6_shakesOnce 125 = .ok (.iload 4, 2) := by decide +kernel
theorem dX6_shakesOnce_127 : decode cX6_shakesOnce 127 = .ok (.invokevirtual 63, 3) := by decide +kernel
theorem dX6_shakesOnce_130 : decode cX6_shakesOnce 130 = .ok (.bipush 9, 2) := by decide +kernel
theorem dX6_shakesOnce_132 : decode cX6_shakesOnce 132 = .ok (.if_icmp .le 24, 3) := by decide +kernel
theorem dX6_shakesOnce_135 : decode cX6_shakesOnce 135 = .ok (.aload_n 0, 1) := by decide +kernel
theorem dX6_shakesOnce_136 : decode cX6_shakesOnce 136 = .ok (.getfield 13, 3) := by decide +kernel
theorem dX6_shakesOnce_139 : decode cX6_shakesOnce 139 = .ok (.aload_n 0, 1) := by decide +kernel
theorem dX6_shakesOnce_140 : decode cX6_shakesOnce 140 = .ok (.getfield 74, 3) := by decide +kernel
theorem dX6_shakesOnce_143 : decode cX6_shakesOnce 143 = .ok (.iload 4, 2) := by decide +kernel
theorem dX6_shakesOnce_145 : decode cX6_shakesOnce 145 = .ok (.iastore, 1) := by decide +kernel
theorem dX6_shakesOnce_146 : decode cX6_shakesOnce 146 = .ok (.aload_n 0, 1) := by decide +kernel
theorem dX6_shakesOnce_147 : decode cX6_shakesOnce 147 = .ok (.dup, 1) := by decide +kernel
theorem dX6_shakesOnce_148 : decode cX6_shakesOnce 148 = .ok (.getfield 74, 3) := by decide +kernel
theorem dX6_shakesOnce_151 : decode cX6_shakesOnce 151 = .ok (.iconst 1, 1) := by decide +kernel
theorem dX6_shakesOnce_152 : decode cX6_shakesOnce 152 = .ok (.iadd, 1) := by decide +kernel
theorem dX6_shakesOnce_153 : decode cX6_shakesOnce 153 = .ok (.putfield 74, 3) := by decide +kernel
theorem dX6_shakesOnce_156 : decode cX6_shakesOnce 156 = .ok (.aload_n 0, 1) := by decide +kernel
theorem dX6_shakesOnce_157 : decode cX6_shakesOnce 157 = .ok (.getfield 7, 3) := by decide +kernel
theorem dX6_shakesOnce_160 : decode cX6_shakesOnce 160 = .ok (.iconst 5, 1) := by decide +kernel
theorem dX6_shakesOnce_161 : decode cX6_shakesOnce 161 = .ok (.iconst 5, 1) := by decide +kernel
theorem dX6_shakesOnce_162 : decode cX6_shakesOnce 162 = .ok (.iload 4, 2) := by decide +kernel
theorem dX6_shakesOnce_164 : decode cX6_shakesOnce 164 = .ok (.imul, 1) := by decide +kernel
theorem dX6_shakesOnce_165 : decode cX6_shakesOnce 165 = .ok (.iadd, 1) := by decide +kernel
theorem dX6_shakesOnce_166 : decode cX6_shakesOnce 166 = .ok (.iconst 3, 1) := by decide +kernel
theorem dX6_shakesOnce_167 : decode cX6_shakesOnce 167 = .ok (.iadd, 1) := by decide +kernel
theorem dX6_shakesOnce_168 : decode cX6_shakesOnce 168 = .ok (.iconst 0, 1) := by decide +kernel
theorem dX6_shakesOnce_169 : decode cX6_shakesOnce 169 = .ok (.iastore, 1) := by decide +kernel
theorem dX6_shakesOnce_170 : decode cX6_shakesOnce 170 = .ok (.iinc 4 1, 3) := by decide +kernel
theorem dX6_shakesOnce_173 : decode cX6_shakesOnce 173 = .ok (.goto (-70), 3) := by decide +kernel
theorem dX6_shakesOnce_176 : decode cX6_shakesOnce 176 = .ok (.iload_n 3, 1) := by decide +kernel
theorem dX6_shakesOnce_177 : decode cX6_shakesOnce 177 = .ok (.ireturn, 1) := by decide +kernel
set_option maxRecDepth 20000 in
theorem ggX6_shakes_X6_shakesOnce : GoodIn wsX6_shakes wsX6_shakesOnce := goodIn_r _ [8, 3, 2, 1, 9, 10, 11, 7, 12, 13, 14, 15, 16, 17, 18, 19, 20, 21, 22, 23, 24, 25, 26, 27, 28, 29, 30, 31, 32, 33, 34, 35, 36, 37, 38, 39, 40, 41, 42, 43, 44] (by decide +kernel) (by decide +kernel)
set_option maxRecDepth 20000 in
theorem gX6_shakes_X6_shakesOnce : GoodIn wsX6_shakes (wsV RX6 78 RX6 yX6_shakesOnce wsX6_shakesOnce) := goodIn_app (goodIn_of _ (by decide +kernel)) ggX6_shakes_X6_shakesOnce
set_option maxRecDepth 20000 in
theorem ggX6_shakes_X6_told : GoodIn wsX6_shakes wsX6_told := goodIn_r _ [12, 3, 25, 26, 27, 28, 29, 30, 31, 32, 33, 34, 35, 36, 37, 38, 39, 40, 41, 42, 43, 44] (by decide +kernel) (by decide +kernel)
set_option maxRecDepth 20000 in
theorem gX6_shakes_X6_told : GoodIn wsX6_shakes (wsV RX6 55 RX6 yX6_told wsX6_told) := goodIn_app (goodIn_of _ (by decide +kernel)) ggX6_shakes_X6_told
theorem dX6_shakes_0 : decode cX6_shakes 0 = .ok (.aload_n 0, 1) := by decide +kernel
theorem dX6_shakes_1 : decode cX6_shakes 1 = .ok (.iconst 0, 1) := by decide +kernel
theorem dX6_shakes_2 : decode cX6_shakes 2 = .ok (.putfield 74, 3) := by decide +kernel
theorem dX6_shakes_5 : decode cX6_shakes 5 = .ok (.aload_n 0, 1) := by decide +kernel
theorem dX6_shakes_6 : decode cX6_shakes 6 = .ok (.iload_n 1, 1) := by decide +kernel
theorem dX6_shakes_7 : decode cX6_shakes 7 = .ok (.iload_n 2, 1) := by decide +kernel
theorem dX6_shakes_8 : decode cX6_shakes 8 = .ok (.invokevirtual 78, 3) := by decide +kernel
theorem dX6_shakes_11 : decode cX6_shakes 11 = .ok (.istore_n 3, 1) := by decide +kernel
theorem dX6_shakes_12 : decode cX6_shakes 12 = .ok (.iconst 0, 1) := by decide +kernel
theorem dX6_shakes_13 : decode cX6_shakes 13 = .ok (.istore 4, 2) := by decide +kernel
theorem dX6_shakes_15 : decode cX6_shakes 15 = .ok (.iload 4, 2) := by decide +kernel
theorem dX6_shakes_17 : decode cX6_shakes 17 = .ok (.aload_n 0, 1) := by decide +kernel
theorem dX6_shakes_18 : decode cX6_shakes 18 = .ok (.getfield 74, 3) := by decide +kernel
theorem dX6_shakes_21 : decode cX6_shakes 21 = .ok (.if_icmp .ge 34, 3) := by decide +kernel
theorem dX6_shakes_24 : decode cX6_shakes 24 = .ok (.iload_n 3, 1) := by decide +kernel
theorem dX6_shakes_25 : decode cX6_shakes 25 = .ok (.aload_n 0, 1) := by decide +kernel
theorem dX6_shakes_26 : decode cX6_shakes 26 = .ok (.aload_n 0, 1) := by decide +kernel
theorem dX6_shakes_27 : decode cX6_shakes 27 = .ok (.aload_n 0, 1) := by decide +kernel
theorem dX6_shakes_28 : decode cX6_shakes 28 = .ok (.getfield 13, 3) := by decide +kernel
theorem dX6_shakes_31 : decode cX6_shakes 31 = .ok (.iload 4, 2) := by decide +kernel
theorem dX6_shakes_33 : decode cX6_shakes 33 = .ok (.iaload, 1) := by decide +kernel
theorem dX6_shakes_34 : decode cX6_shakes 34 = .ok (.iconst 1, 1) := by decide +kernel
theorem dX6_shakes_35 : decode cX6_shakes 35 = .ok (.invokevirtual 55, 3) := by decide +kernel
theorem dX6_shakes_38 : decode cX6_shakes 38 = .ok (.aload_n 0, 1) := by decide +kernel
theorem dX6_shakes_39 : decode cX6_shakes 39 = .ok (.getfield 7, 3) := by decide +kernel
theorem dX6_shakes_42 : decode cX6_shakes 42 = .ok (.iconst 3, 1) := by decide +kernel
theorem dX6_shakes_43 : decode cX6_shakes 43 = .ok (.iaload, 1) := by decide +kernel
theorem dX6_shakes_44 : decode cX6_shakes 44 = .ok (.invokevirtual 78, 3) := by decide +kernel
theorem dX6_shakes_47 : decode cX6_shakes 47 = .ok (.ior, 1) := by decide +kernel
theorem dX6_shakes_48 : decode cX6_shakes 48 = .ok (.istore_n 3, 1) := by decide +kernel
theorem dX6_shakes_49 : decode cX6_shakes 49 = .ok (.iinc 4 1, 3) := by decide +kernel
theorem dX6_shakes_52 : decode cX6_shakes 52 = .ok (.goto (-37), 3) := by decide +kernel
theorem dX6_shakes_55 : decode cX6_shakes 55 = .ok (.iload_n 3, 1) := by decide +kernel
theorem dX6_shakes_56 : decode cX6_shakes 56 = .ok (.ireturn, 1) := by decide +kernel
theorem dX6_comes_0 : decode cX6_comes 0 = .ok (.iconst 5, 1) := by decide +kernel
theorem dX6_comes_1 : decode cX6_comes 1 = .ok (.iconst 5, 1) := by decide +kernel
theorem dX6_comes_2 : decode cX6_comes 2 = .ok (.aload_n 0, 1) := by decide +kernel
theorem dX6_comes_3 : decode cX6_comes 3 = .ok (.getfield 7, 3) := by decide +kernel
theorem dX6_comes_6 : decode cX6_comes 6 = .ok (.iconst 0, 1) := by decide +kernel
theorem dX6_comes_7 : decode cX6_comes 7 = .ok (.iaload, 1) := by decide +kernel
theorem dX6_comes_8 : decode cX6_comes 8 = .ok (.imul, 1) := by decide +kernel
theorem dX6_comes_9 : decode cX6_comes 9 = .ok (.iadd, 1) := by decide +kernel
theorem dX6_comes_10 : decode cX6_comes 10 = .ok (.istore 6, 2) := by decide +kernel
theorem dX6_comes_12 : decode cX6_comes 12 = .ok (.aload_n 0, 1) := by decide +kernel
theorem dX6_comes_13 : decode cX6_comes 13 = .ok (.getfield 7, 3) := by decide +kernel
theorem dX6_comes_16 : decode cX6_comes 16 = .ok (.iload 6, 2) := by decide +kernel
theorem dX6_comes_18 : decode cX6_comes 18 = .ok (.iload_n 1, 1) := by decide +kernel
theorem dX6_comes_19 : decode cX6_comes 19 = .ok (.iastore, 1) := by decide +kernel
theorem dX6_comes_20 : decode cX6_comes 20 = .ok (.aload_n 0, 1) := by decide +kernel
theorem dX6_comes_21 : decode cX6_comes 21 = .ok (.getfield 7, 3) := by decide +kernel
theorem dX6_comes_24 : decode cX6_comes 24 = .ok (.iload 6, 2) := by decide +kernel
theorem dX6_comes_26 : decode cX6_comes 26 = .ok (.iconst 1, 1) := by decide +kernel
theorem dX6_comes_27 : decode cX6_comes 27 = .ok (.iadd, 1) := by decide +kernel
theorem dX6_comes_28 : decode cX6_comes 28 = .ok (.iload_n 2, 1) := by decide +kernel
theorem dX6_comes_29 : decode cX6_comes 29 = .ok (.iastore, 1) := by decide +kernel
theorem dX6_comes_30 : decode cX6_comes 30 = .ok (.aload_n 0, 1) := by decide +kernel
theorem dX6_comes_31 : decode cX6_comes 31 = .ok (.getfield 7, 3) := by decide +kernel
theorem dX6_comes_34 : decode cX6_comes 34 = .ok (.iload 6, 2) := by decide +kernel
theorem dX6_comes_36 : decode cX6_comes 36 = .ok (.iconst 2, 1) := by decide +kernel
theorem dX6_comes_37 : decode cX6_comes 37 = .ok (.iadd, 1) := by decide +kernel
theorem dX6_comes_38 : decode cX6_comes 38 = .ok (.iload_n 3, 1) := by decide +kernel
theorem dX6_comes_39 : decode cX6_comes 39 = .ok (.iastore, 1) := by decide +kernel
theorem dX6_comes_40 : decode cX6_comes 40 = .ok (.aload_n 0, 1) := by decide +kernel
theorem dX6_comes_41 : decode cX6_comes 41 = .ok (.getfield 7, 3) := by decide +kernel
theorem dX6_comes_44 : decode cX6_comes 44 = .ok (.iload 6, 2) := by decide +kernel
theorem dX6_comes_46 : decode cX6_comes 46 = .ok (.iconst 3, 1) := by decide +kernel
theorem dX6_comes_47 : decode cX6_comes 47 = .ok (.iadd, 1) := by decide +kernel
theorem dX6_comes_48 : decode cX6_comes 48 = .ok (.iload 4, 2) := by decide +kernel
theorem dX6_comes_50 : decode cX6_comes 50 = .ok (.iastore, 1) := by decide +kernel
theorem dX6_comes_51 : decode cX6_comes 51 = .ok (.aload_n 0, 1) := by decide +kernel
theorem dX6_comes_52 : decode cX6_comes 52 = .ok (.getfield 7, 3) := by decide +kernel
theorem dX6_comes_55 : decode cX6_comes 55 = .ok (.iload 6, 2) := by decide +kernel
theorem dX6_comes_57 : decode cX6_comes 57 = .ok (.iconst 4, 1) := by decide +kernel
theorem dX6_comes_58 : decode cX6_comes 58 = .ok (.iadd, 1) := by decide +kernel
theorem dX6_comes_59 : decode cX6_comes 59 = .ok (.iload 5, 2) := by decide +kernel
theorem dX6_comes_61 : decode cX6_comes 61 = .ok (.iastore, 1) := by decide +kernel
theorem dX6_comes_62 : decode cX6_comes 62 = .ok (.aload_n 0, 1) := by decide +kernel
theorem dX6_comes_63 : decode cX6_comes 63 = .ok (.getfield 7, 3) := by decide +kernel
theorem dX6_comes_66 : decode cX6_comes 66 = .ok (.iconst 0, 1) := by decide +kernel
theorem dX6_comes_67 : decode cX6_comes 67 = .ok (.dup2, 1) := by decide +kernel
theorem dX6_comes_68 : decode cX6_comes 68 = .ok (.iaload, 1) := by decide +kernel
theorem dX6_comes_69 : decode cX6_comes 69 = .ok (.iconst 1, 1) := by decide +kernel
theorem dX6_comes_70 : decode cX6_comes 70 = .ok (.iadd, 1) := by decide +kernel
theorem dX6_comes_71 : decode cX6_comes 71 = .ok (.iastore, 1) := by decide +kernel
theorem dX6_comes_72 : decode cX6_comes 72 = .ok (.aload_n 0, 1) := by decide +kernel
theorem dX6_comes_73 : decode cX6_comes 73 = .ok (.iconst 0, 1) := by decide +kernel
theorem dX6_comes_74 : decode cX6_comes 74 = .ok (.putfield 81, 3) := by decide +kernel
theorem dX6_comes_77 : decode cX6_comes 77 = .ok (.return_, 1) := by decide +kernel
set_option maxRecDepth 20000 in
theorem ggX6_clerk_X6_in : GoodIn wsX6_clerk wsX6_in := goodIn_r _ [7] (by decide +kernel) (by decide +kernel)
set_option maxRecDepth 20000 in
theorem gX6_clerk_X6_in : GoodIn wsX6_clerk (va_wsS RX6 47 yX6_in wsX6_in) := goodIn_app (goodIn_of _ (by decide +kernel)) ggX6_clerk_X6_in
set_option maxRecDepth 20000 in
theorem ggX6_clerk_X6_isDesk : GoodIn wsX6_clerk wsX6_isDesk := goodIn_r _ [10, 2, 4, 5, 6, 7] (by decide +kernel) (by decide +kernel)
set_option maxRecDepth 20000 in
theorem gX6_clerk_X6_isDesk : GoodIn wsX6_clerk (va_wsS RX6 86 yX6_isDesk wsX6_isDesk) := goodIn_app (goodIn_of _ (by decide +kernel)) ggX6_clerk_X6_isDesk
set_option maxRecDepth 20000 in
theorem ggX6_clerk_X6_comes : GoodIn wsX6_clerk wsX6_comes := goodIn_r _ [14, 3, 15, 16, 17, 18, 19, 20, 21, 22, 23, 24, 25, 26, 27, 28, 29, 30, 31, 32, 33, 34, 35] (by decide +kernel) (by decide +kernel)
set_option maxRecDepth 20000 in
theorem gX6_clerk_X6_comes : GoodIn wsX6_clerk (wsV RX6 89 RX6 yX6_comes wsX6_comes) := goodIn_app (goodIn_of _ (by decide +kernel)) ggX6_clerk_X6_comes
theorem dX6_clerk_0 : decode cX6_clerk 0 = .ok (.iload_n 1, 1) := by decide +kernel
theorem dX6_clerk_1 : decode cX6_clerk 1 = .ok (.i2l, 1) := by decide +kernel
theorem dX6_clerk_2 : decode cX6_clerk 2 = .ok (.lconst 0, 1) := by decide +kernel
theorem dX6_clerk_3 : decode cX6_clerk 3 = .ok (.ldc2_w 84, 3) := by decide +kernel
theorem dX6_clerk_6 : decode cX6_clerk 6 = .ok (.invokestatic 47, 3) := by decide +kernel
theorem dX6_clerk_9 : decode cX6_clerk 9 = .ok (.ifCond .eq 22, 3) := by decide +kernel
theorem dX6_clerk_12 : decode cX6_clerk 12 = .ok (.iload_n 2, 1) := by decide +kernel
theorem dX6_clerk_13 : decode cX6_clerk 13 = .ok (.invokestatic 86, 3) := by decide +kernel
theorem dX6_clerk_16 : decode cX6_clerk 16 = .ok (.ifCond .eq 15, 3) := by decide +kernel
theorem dX6_clerk_19 : decode cX6_clerk 19 = .ok (.iload_n 3, 1) := by decide +kernel
theorem dX6_clerk_20 : decode cX6_clerk 20 = .ok (.i2l, 1) := by decide +kernel
theorem dX6_clerk_21 : decode cX6_clerk 21 = .ok (.lconst 1, 1) := by decide +kernel
theorem dX6_clerk_22 : decode cX6_clerk 22 = .ok (.ldc2_w 51, 3) := by decide +kernel
theorem dX6_clerk_25 : decode cX6_clerk 25 = .ok (.invokestatic 47, 3) := by decide +kernel
theorem dX6_clerk_28 : decode cX6_clerk 28 = .ok (.ifCond .ne 5, 3) := by decide +kernel
theorem dX6_clerk_31 : decode cX6_clerk 31 = .ok (.iconst (-1), 1) := by decide +kernel
theorem dX6_clerk_32 : decode cX6_clerk 32 = .ok (.ireturn, 1) := by decide +kernel
theorem dX6_clerk_33 : decode cX6_clerk 33 = .ok (.aload_n 0, 1) := by decide +kernel
theorem dX6_clerk_34 : decode cX6_clerk 34 = .ok (.getfield 7, 3) := by decide +kernel
theorem dX6_clerk_37 : decode cX6_clerk 37 = .ok (.iconst 0, 1) := by decide +kernel
theorem dX6_clerk_38 : decode cX6_clerk 38 = .ok (.iaload, 1) := by decide +kernel
theorem dX6_clerk_39 : decode cX6_clerk 39 = .ok (.bipush 6, 2) := by decide +kernel
theorem dX6_clerk_41 : decode cX6_clerk 41 = .ok (.if_icmp .ne 6, 3) := by decide +kernel
theorem dX6_clerk_44 : decode cX6_clerk 44 = .ok (.bipush (-3), 2) := by decide +kernel
theorem dX6_clerk_46 : decode cX6_clerk 46 = .ok (.ireturn, 1) := by decide +kernel
theorem dX6_clerk_47 : decode cX6_clerk 47 = .ok (.aload_n 0, 1) := by decide +kernel
theorem dX6_clerk_48 : decode cX6_clerk 48 = .ok (.iload_n 1, 1) := by decide +kernel
theorem dX6_clerk_49 : decode cX6_clerk 49 = .ok (.iload_n 2, 1) := by decide +kernel
theorem dX6_clerk_50 : decode cX6_clerk 50 = .ok (.iload_n 3, 1) := by decide +kernel
theorem dX6_clerk_51 : decode cX6_clerk 51 = .ok (.iconst 0, 1) := by decide +kernel
theorem dX6_clerk_52 : decode cX6_clerk 52 = .ok (.iconst 1, 1) := by decide +kernel
theorem dX6_clerk_53 : decode cX6_clerk 53 = .ok (.invokevirtual 89, 3) := by decide +kernel
theorem dX6_clerk_56 : decode cX6_clerk 56 = .ok (.aload_n 0, 1) := by decide +kernel
theorem dX6_clerk_57 : decode cX6_clerk 57 = .ok (.getfield 7, 3) := by decide +kernel
theorem dX6_clerk_60 : decode cX6_clerk 60 = .ok (.iconst 0, 1) := by decide +kernel
theorem dX6_clerk_61 : decode cX6_clerk 61 = .ok (.iaload, 1) := by decide +kernel
theorem dX6_clerk_62 : decode cX6_clerk 62 = .ok (.iconst 1, 1) := by decide +kernel
theorem dX6_clerk_63 : decode cX6_clerk 63 = .ok (.isub, 1) := by decide +kernel
theorem dX6_clerk_64 : decode cX6_clerk 64 = .ok (.ireturn, 1) := by decide +kernel
set_option maxRecDepth 20000 in
theorem ggX6_of_X6_isClerk : GoodIn wsX6_of wsX6_isClerk := goodIn_r _ [6, 7, 8, 9, 5, 10, 27, 28, 29, 30, 31, 32, 33, 34, 35, 36, 37, 38, 39, 40, 41, 42, 43, 44, 45, 46] (by decide +kernel) (by decide +kernel)
set_option maxRecDepth 20000 in
theorem gX6_of_X6_isClerk : GoodIn wsX6_of (wsV RX6 93 RX6 yX6_isClerk wsX6_isClerk) := goodIn_app (goodIn_of _ (by decide +kernel)) ggX6_of_X6_isClerk
set_option maxRecDepth 20000 in
theorem ggX6_of_X6_in : GoodIn wsX6_of wsX6_in := goodIn_r _ [10] (by decide +kernel) (by decide +kernel)
set_option maxRecDepth 20000 in
theorem gX6_of_X6_in : GoodIn wsX6_of (va_wsS RX6 47 yX6_in wsX6_in) := goodIn_app (goodIn_of _ (by decide +kernel)) ggX6_of_X6_in
set_option maxRecDepth 20000 in
theorem ggX6_of_X6_told : GoodIn wsX6_of wsX6_told := goodIn_r _ [14, 7, 27, 28, 29, 30, 31, 32, 33, 34, 35, 36, 37, 38, 39, 40, 41, 42, 43, 44, 45, 46] (by decide +kernel) (by decide +kernel)
set_option maxRecDepth 20000 in
theorem gX6_of_X6_told : GoodIn wsX6_of (wsV RX6 55 RX6 yX6_told wsX6_told) := goodIn_app (goodIn_of _ (by decide +kernel)) ggX6_of_X6_told
set_option maxRecDepth 20000 in
theorem ggX6_of_X6_holds : GoodIn wsX6_of wsX6_holds := goodIn_r _ [18, 7, 19, 20, 21, 5, 22, 11, 12, 13, 14, 23, 24, 25, 26, 27, 28, 29, 30, 31, 32, 33, 34, 35, 36, 37, 38, 39, 40, 41, 42, 43, 44, 45, 46] (by decide +kernel) (by decide +kernel)
set_option maxRecDepth 20000 in
theorem gX6_of_X6_holds : GoodIn wsX6_of (wsV RX6 71 RX6 yX6_holds wsX6_holds) := goodIn_app (goodIn_of _ (by decide +kernel)) ggX6_of_X6_holds
theorem dX6_of_0 : decode cX6_of 0 = .ok (.aload_n 0, 1) := by decide +kernel
theorem dX6_of_1 : decode cX6_of 1 = .ok (.iload_n 1, 1) := by decide +kernel
theorem dX6_of_2 : decode cX6_of 2 = .ok (.invokevirtual 93, 3) := by decide +kernel
theorem dX6_of_5 : decode cX6_of 5 = .ok (.ifCond .eq 15, 3) := by decide +kernel
theorem dX6_of_8 : decode cX6_of 8 = .ok (.iload_n 2, 1) := by decide +kernel
theorem dX6_of_9 : decode cX6_of 9 = .ok (.i2l, 1) := by decide +kernel
theorem dX6_of_10 : decode cX6_of 10 = .ok (.lconst 0, 1) := by decide +kernel
theorem dX6_of_11 : decode cX6_of 11 = .ok (.ldc2_w 96, 3) := by decide +kernel
theorem dX6_of_14 : decode cX6_of 14 = .ok (.invokestatic 47, 3) := by decide +kernel
theorem dX6_of_17 : decode cX6_of 17 = .ok (.ifCond .ne 5, 3) := by decide +kernel
theorem dX6_of_20 : decode cX6_of 20 = .ok (.iconst (-1), 1) := by decide +kernel
theorem dX6_of_21 : decode cX6_of 21 = .ok (.ireturn, 1) := by decide +kernel
theorem dX6_of_22 : decode cX6_of 22 = .ok (.iload_n 2, 1) := by decide +kernel
theorem dX6_of_23 : decode cX6_of 23 = .ok (.iconst 5, 1) := by decide +kernel
theorem dX6_of_24 : decode cX6_of 24 = .ok (.if_icmp .ge 12, 3) := by decide +kernel
theorem dX6_of_27 : decode cX6_of 27 = .ok (.aload_n 0, 1) := by decide +kernel
theorem dX6_of_28 : decode cX6_of 28 = .ok (.iload_n 1, 1) := by decide +kernel
theorem dX6_of_29 : decode cX6_of 29 = .ok (.iload_n 2, 1) := by decide +kernel
theorem dX6_of_30 : decode cX6_of 30 = .ok (.invokevirtual 55, 3) := by decide +kernel
theorem dX6_of_33 : decode cX6_of 33 = .ok (.goto 8, 3) := by decide +kernel
theorem dX6_of_36 : decode cX6_of 36 = .ok (.aload_n 0, 1) := by decide +kernel
theorem dX6_of_37 : decode cX6_of 37 = .ok (.iload_n 1, 1) := by decide +kernel
theorem dX6_of_38 : decode cX6_of 38 = .ok (.invokevirtual 71, 3) := by decide +kernel
theorem dX6_of_41 : decode cX6_of 41 = .ok (.ireturn, 1) := by decide +kernel
set_option maxRecDepth 20000 in
theorem ggX6_desk_X6_isClerk : GoodIn wsX6_desk wsX6_isClerk := goodIn_r _ [6, 1, 7, 8, 5, 9, 18, 19, 20, 21, 22, 23, 24, 25, 26, 27, 28, 29, 30, 31, 32, 33, 34, 35, 36, 37] (by decide +kernel) (by decide +kernel)
set_option maxRecDepth 20000 in
theorem gX6_desk_X6_isClerk : GoodIn wsX6_desk (wsV RX6 93 RX6 yX6_isClerk wsX6_isClerk) := goodIn_app (goodIn_of _ (by decide +kernel)) ggX6_desk_X6_isClerk
set_option maxRecDepth 20000 in
theorem ggX6_desk_X6_isDesk : GoodIn wsX6_desk wsX6_isDesk := goodIn_r _ [12, 13, 7, 8, 5, 9] (by decide +kernel) (by decide +kernel)
set_option maxRecDepth 20000 in
theorem gX6_desk_X6_isDesk : GoodIn wsX6_desk (va_wsS RX6 86 yX6_isDesk wsX6_isDesk) := goodIn_app (goodIn_of _ (by decide +kernel)) ggX6_desk_X6_isDesk
set_option maxRecDepth 20000 in
theorem ggX6_desk_X6_told : GoodIn wsX6_desk wsX6_told := goodIn_r _ [17, 1, 18, 19, 20, 21, 22, 23, 24, 25, 26, 27, 28, 29, 30, 31, 32, 33, 34, 35, 36, 37] (by decide +kernel) (by decide +kernel)
set_option maxRecDepth 20000 in
theorem gX6_desk_X6_told : GoodIn wsX6_desk (wsV RX6 55 RX6 yX6_told wsX6_told) := goodIn_app (goodIn_of _ (by decide +kernel)) ggX6_desk_X6_told
theorem dX6_desk_0 : decode cX6_desk 0 = .ok (.aload_n 0, 1) := by decide +kernel
theorem dX6_desk_1 : decode cX6_desk 1 = .ok (.iload_n 1, 1) := by decide +kernel
theorem dX6_desk_2 : decode cX6_desk 2 = .ok (.invokevirtual 93, 3) := by decide +kernel
theorem dX6_desk_5 : decode cX6_desk 5 = .ok (.ifCond .eq 10, 3) := by decide +kernel
theorem dX6_desk_8 : decode cX6_desk 8 = .ok (.iload_n 2, 1) := by decide +kernel
theorem dX6_desk_9 : decode cX6_desk 9 = .ok (.invokestatic 86, 3) := by decide +kernel
theorem dX6_desk_12 : decode cX6_desk 12 = .ok (.ifCond .ne 5, 3) := by decide +kernel
theorem dX6_desk_15 : decode cX6_desk 15 = .ok (.iconst (-1), 1) := by decide +kernel
theorem dX6_desk_16 : decode cX6_desk 16 = .ok (.ireturn, 1) := by decide +kernel
theorem dX6_desk_17 : decode cX6_desk 17 = .ok (.aload_n 0, 1) := by decide +kernel
theorem dX6_desk_18 : decode cX6_desk 18 = .ok (.iload_n 1, 1) := by decide +kernel
theorem dX6_desk_19 : decode cX6_desk 19 = .ok (.iconst 1, 1) := by decide +kernel
theorem dX6_desk_20 : decode cX6_desk 20 = .ok (.invokevirtual 55, 3) := by decide +kernel
theorem dX6_desk_23 : decode cX6_desk 23 = .ok (.istore_n 3, 1) := by decide +kernel
theorem dX6_desk_24 : decode cX6_desk 24 = .ok (.aload_n 0, 1) := by decide +kernel
theorem dX6_desk_25 : decode cX6_desk 25 = .ok (.getfield 7, 3) := by decide +kernel
theorem dX6_desk_28 : decode cX6_desk 28 = .ok (.iconst 5, 1) := by decide +kernel
theorem dX6_desk_29 : decode cX6_desk 29 = .ok (.iconst 5, 1) := by decide +kernel
theorem dX6_desk_30 : decode cX6_desk 30 = .ok (.iload_n 1, 1) := by decide +kernel
theorem dX6_desk_31 : decode cX6_desk 31 = .ok (.imul, 1) := by decide +kernel
theorem dX6_desk_32 : decode cX6_desk 32 = .ok (.iadd, 1) := by decide +kernel
theorem dX6_desk_33 : decode cX6_desk 33 = .ok (.iconst 1, 1) := by decide +kernel
theorem dX6_desk_34 : decode cX6_desk 34 = .ok (.iadd, 1) := by decide +kernel
theorem dX6_desk_35 : decode cX6_desk 35 = .ok (.iload_n 2, 1) := by decide +kernel
theorem dX6_desk_36 : decode cX6_desk 36 = .ok (.iastore, 1) := by decide +kernel
theorem dX6_desk_37 : decode cX6_desk 37 = .ok (.iload_n 3, 1) := by decide +kernel
theorem dX6_desk_38 : decode cX6_desk 38 = .ok (.ireturn, 1) := by decide +kernel
set_option maxRecDepth 20000 in
theorem ggX6_rule_X6_in : GoodIn wsX6_rule wsX6_in := goodIn_r _ [6] (by decide +kernel) (by decide +kernel)
set_option maxRecDepth 20000 in
theorem gX6_rule_X6_in : GoodIn wsX6_rule (va_wsS RX6 47 yX6_in wsX6_in) := goodIn_app (goodIn_of _ (by decide +kernel)) ggX6_rule_X6_in
theorem dX6_rule_0 : decode cX6_rule 0 = .ok (.iload_n 1, 1) := by decide +kernel
theorem dX6_rule_1 : decode cX6_rule 1 = .ok (.ifCond .ne 18, 3) := by decide +kernel
theorem dX6_rule_4 : decode cX6_rule 4 = .ok (.iload_n 2, 1) := by decide +kernel
theorem dX6_rule_5 : decode cX6_rule 5 = .ok (.i2l, 1) := by decide +kernel
theorem dX6_rule_6 : decode cX6_rule 6 = .ok (.lconst 1, 1) := by decide +kernel
theorem dX6_rule_7 : decode cX6_rule 7 = .ok (.ldc2_w 51, 3) := by decide +kernel
theorem dX6_rule_10 : decode cX6_rule 10 = .ok (.invokestatic 47, 3) := by decide +kernel
theorem dX6_rule_13 : decode cX6_rule 13 = .ok (.ifCond .ne 25, 3) := by decide +kernel
theorem dX6_rule_16 : decode cX6_rule 16 = .ok (.goto 20, 3) := by decide +kernel
theorem dX6_rule_19 : decode cX6_rule 19 = .ok (.iload_n 1, 1) := by decide +kernel
theorem dX6_rule_20 : decode cX6_rule 20 = .ok (.iconst 1, 1) := by decide +kernel
theorem dX6_rule_21 : decode cX6_rule 21 = .ok (.if_icmp .ne 15, 3) := by decide +kernel
theorem dX6_rule_24 : decode cX6_rule 24 = .ok (.iload_n 2, 1) := by decide +kernel
theorem dX6_rule_25 : decode cX6_rule 25 = .ok (.i2l, 1) := by decide +kernel
theorem dX6_rule_26 : decode cX6_rule 26 = .ok (.lconst 0, 1) := by decide +kernel
theorem dX6_rule_27 : decode cX6_rule 27 = .ok (.ldc2_w 51, 3) := by decide +kernel
theorem dX6_rule_30 : decode cX6_rule 30 = .ok (.invokestatic 47, 3) := by decide +kernel
theorem dX6_rule_33 : decode cX6_rule 33 = .ok (.ifCond .ne 5, 3) := by decide +kernel
theorem dX6_rule_36 : decode cX6_rule 36 = .ok (.iconst (-1), 1) := by decide +kernel
theorem dX6_rule_37 : decode cX6_rule 37 = .ok (.ireturn, 1) := by decide +kernel
theorem dX6_rule_38 : decode cX6_rule 38 = .ok (.aload_n 0, 1) := by decide +kernel
theorem dX6_rule_39 : decode cX6_rule 39 = .ok (.getfield 7, 3) := by decide +kernel
theorem dX6_rule_42 : decode cX6_rule 42 = .ok (.iconst 2, 1) := by decide +kernel
theorem dX6_rule_43 : decode cX6_rule 43 = .ok (.iload_n 1, 1) := by decide +kernel
theorem dX6_rule_44 : decode cX6_rule 44 = .ok (.iadd, 1) := by decide +kernel
theorem dX6_rule_45 : decode cX6_rule 45 = .ok (.iaload, 1) := by decide +kernel
theorem dX6_rule_46 : decode cX6_rule 46 = .ok (.istore_n 3, 1) := by decide +kernel
theorem dX6_rule_47 : decode cX6_rule 47 = .ok (.aload_n 0, 1) := by decide +kernel
theorem dX6_rule_48 : decode cX6_rule 48 = .ok (.getfield 7, 3) := by decide +kernel
theorem dX6_rule_51 : decode cX6_rule 51 = .ok (.iconst 2, 1) := by decide +kernel
theorem dX6_rule_52 : decode cX6_rule 52 = .ok (.iload_n 1, 1) := by decide +kernel
theorem dX6_rule_53 : decode cX6_rule 53 = .ok (.iadd, 1) := by decide +kernel
theorem dX6_rule_54 : decode cX6_rule 54 = .ok (.iload_n 2, 1) := by decide +kernel
theorem dX6_rule_55 : decode cX6_rule 55 = .ok (.iastore, 1) := by decide +kernel
theorem dX6_rule_56 : decode cX6_rule 56 = .ok (.iload_n 3, 1) := by decide +kernel
theorem dX6_rule_57 : decode cX6_rule 57 = .ok (.ireturn, 1) := by decide +kernel
set_option maxRecDepth 20000 in
theorem ggX6_those_X6_smokes : GoodIn wsX6_those wsX6_smokes := goodIn_r _ [6, 7, 8, 9, 5, 10, 1, 15, 16, 17, 18, 19, 20, 21, 22, 23, 24, 25, 26, 27, 28, 29, 30, 31, 32, 33, 34] (by decide +kernel) (by decide +kernel)
set_option maxRecDepth 20000 in
theorem gX6_those_X6_smokes : GoodIn wsX6_those (wsV RX6 59 RX6 yX6_smokes wsX6_smokes) := goodIn_app (goodIn_of _ (by decide +kernel)) ggX6_those_X6_smokes
set_option maxRecDepth 20000 in
theorem ggX6_those_X6_ash : GoodIn wsX6_those wsX6_ash := goodIn_r _ [14, 7, 8, 9, 5, 10, 1, 15, 16, 17, 18, 19, 20, 21, 22, 23, 24, 25, 26, 27, 28, 29, 30, 31, 32, 33, 34] (by decide +kernel) (by decide +kernel)
set_option maxRecDepth 20000 in
theorem gX6_those_X6_ash : GoodIn wsX6_those (wsV RX6 63 RX6 yX6_ash wsX6_ash) := goodIn_app (goodIn_of _ (by decide +kernel)) ggX6_those_X6_ash

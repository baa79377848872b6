theorem dX0_init_0 : decode cX0_init 0 = .ok (.aload_n 0, 1) := by decide +kernel
theorem dX0_init_1 : decode cX0_init 1 = .ok (.invokespecial 3, 3) := by decide +kernel
theorem dX0_init_4 : decode cX0_init 4 = .ok (.aload_n 0, 1) := by decide +kernel
theorem dX0_init_5 : decode cX0_init 5 = .ok (.bipush 48, 2) := by decide +kernel
theorem dX0_init_7 : decode cX0_init 7 = .ok (.newarray .int, 2) := by decide +kernel
theorem dX0_init_9 : decode cX0_init 9 = .ok (.putfield 9, 3) := by decide +kernel
theorem dX0_init_12 : decode cX0_init 12 = .ok (.aload_n 0, 1) := by decide +kernel
theorem dX0_init_13 : decode cX0_init 13 = .ok (.bipush 8, 2) := by decide +kernel
theorem dX0_init_15 : decode cX0_init 15 = .ok (.newarray .int, 2) := by decide +kernel
theorem dX0_init_17 : decode cX0_init 17 = .ok (.putfield 15, 3) := by decide +kernel
theorem dX0_init_20 : decode cX0_init 20 = .ok (.aload_n 0, 1) := by decide +kernel
theorem dX0_init_21 : decode cX0_init 21 = .ok (.bipush 8, 2) := by decide +kernel
theorem dX0_init_23 : decode cX0_init 23 = .ok (.newarray .int, 2) := by decide +kernel
theorem dX0_init_25 : decode cX0_init 25 = .ok (.putfield 18, 3) := by decide +kernel
theorem dX0_init_28 : decode cX0_init 28 = .ok (.aload_n 0, 1) := by decide +kernel
theorem dX0_init_29 : decode cX0_init 29 = .ok (.bipush 8, 2) := by decide +kernel
theorem dX0_init_31 : decode cX0_init 31 = .ok (.newarray .int, 2) := by decide +kernel
theorem dX0_init_33 : decode cX0_init 33 = .ok (.putfield 21, 3) := by decide +kernel
theorem dX0_init_36 : decode cX0_init 36 = .ok (.return_, 1) := by decide +kernel
theorem dX0_forget_0 : decode cX0_forget 0 = .ok (.aload_n 0, 1) := by decide +kernel
theorem dX0_forget_1 : decode cX0_forget 1 = .ok (.iconst 0, 1) := by decide +kernel
theorem dX0_forget_2 : decode cX0_forget 2 = .ok (.putfield 24, 3) := by decide +kernel
theorem dX0_forget_5 : decode cX0_forget 5 = .ok (.return_, 1) := by decide +kernel
theorem dX0_note_0 : decode cX0_note 0 = .ok (.aload_n 1, 1) := by decide +kernel
theorem dX0_note_1 : decode cX0_note 1 = .ok (.getfield 28, 3) := by decide +kernel
theorem dX0_note_4 : decode cX0_note 4 = .ok (.iconst 0, 1) := by decide +kernel
theorem dX0_note_5 : decode cX0_note 5 = .ok (.aload_n 0, 1) := by decide +kernel
theorem dX0_note_6 : decode cX0_note 6 = .ok (.getfield 9, 3) := by decide +kernel
theorem dX0_note_9 : decode cX0_note 9 = .ok (.aload_n 0, 1) := by decide +kernel
theorem dX0_note_10 : decode cX0_note 10 = .ok (.getfield 31, 3) := by decide +kernel
theorem dX0_note_13 : decode cX0_note 13 = .ok (.bipush 6, 2) := by decide +kernel
theorem dX0_note_15 : decode cX0_note 15 = .ok (.imul, 1) := by decide +kernel
theorem dX0_note_16 : decode cX0_note 16 = .ok (.bipush 6, 2) := by decide +kernel
theorem dX0_note_18 : decode cX0_note 18 = .ok (.invokestatic 34, 3) := by decide +kernel
theorem dX0_note_21 : decode cX0_note 21 = .ok (.aload_n 0, 1) := by decide +kernel
theorem dX0_note_22 : decode cX0_note 22 = .ok (.getfield 15, 3) := by decide +kernel
theorem dX0_note_25 : decode cX0_note 25 = .ok (.aload_n 0, 1) := by decide +kernel
theorem dX0_note_26 : decode cX0_note 26 = .ok (.getfield 31, 3) := by decide +kernel
theorem dX0_note_29 : decode cX0_note 29 = .ok (.aload_n 1, 1) := by decide +kernel
theorem dX0_note_30 : decode cX0_note 30 = .ok (.getfield 40, 3) := by decide +kernel
theorem dX0_note_33 : decode cX0_note 33 = .ok (.iastore, 1) := by decide +kernel
theorem dX0_note_34 : decode cX0_note 34 = .ok (.aload_n 0, 1) := by decide +kernel
theorem dX0_note_35 : decode cX0_note 35 = .ok (.getfield 18, 3) := by decide +kernel
theorem dX0_note_38 : decode cX0_note 38 = .ok (.aload_n 0, 1) := by decide +kernel
theorem dX0_note_39 : decode cX0_note 39 = .ok (.getfield 31, 3) := by decide +kernel
theorem dX0_note_42 : decode cX0_note 42 = .ok (.aload_n 1, 1) := by decide +kernel
theorem dX0_note_43 : decode cX0_note 43 = .ok (.getfield 42, 3) := by decide +kernel
theorem dX0_note_46 : decode cX0_note 46 = .ok (.iastore, 1) := by decide +kernel
theorem dX0_note_47 : decode cX0_note 47 = .ok (.aload_n 0, 1) := by decide +kernel
theorem dX0_note_48 : decode cX0_note 48 = .ok (.getfield 21, 3) := by decide +kernel
theorem dX0_note_51 : decode cX0_note 51 = .ok (.aload_n 0, 1) := by decide +kernel
theorem dX0_note_52 : decode cX0_note 52 = .ok (.getfield 31, 3) := by decide +kernel
theorem dX0_note_55 : decode cX0_note 55 = .ok (.aload_n 1, 1) := by decide +kernel
theorem dX0_note_56 : decode cX0_note 56 = .ok (.getfield 44, 3) := by decide +kernel
theorem dX0_note_59 : decode cX0_note 59 = .ok (.iastore, 1) := by decide +kernel
theorem dX0_note_60 : decode cX0_note 60 = .ok (.aload_n 0, 1) := by decide +kernel
theorem dX0_note_61 : decode cX0_note 61 = .ok (.aload_n 0, 1) := by decide +kernel
theorem dX0_note_62 : decode cX0_note 62 = .ok (.getfield 31, 3) := by decide +kernel
theorem dX0_note_65 : decode cX0_note 65 = .ok (.iconst 1, 1) := by decide +kernel
theorem dX0_note_66 : decode cX0_note 66 = .ok (.iadd, 1) := by decide +kernel
theorem dX0_note_67 : decode cX0_note 67 = .ok (.bipush 8, 2) := by decide +kernel
theorem dX0_note_69 : decode cX0_note 69 = .ok (.if_icmp .ge 12, 3) := by decide +kernel
theorem dX0_note_72 : decode cX0_note 72 = .ok (.aload_n 0, 1) := by decide +kernel
theorem dX0_note_73 : decode cX0_note 73 = .ok (.getfield 31, 3) := by decide +kernel
theorem dX0_note_76 : decode cX0_note 76 = .ok (.iconst 1, 1) := by decide +kernel
theorem dX0_note_77 : decode cX0_note 77 = .ok (.iadd, 1) := by decide +kernel
theorem dX0_note_78 : decode cX0_note 78 = .ok (.goto 4, 3) := by decide +kernel
theorem dX0_note_81 : decode cX0_note 81 = .ok (.iconst 0, 1) := by decide +kernel
theorem dX0_note_82 : decode cX0_note 82 = .ok (.putfield 31, 3) := by decide +kernel
theorem dX0_note_85 : decode cX0_note 85 = .ok (.aload_n 0, 1) := by decide +kernel
theorem dX0_note_86 : decode cX0_note 86 = .ok (.aload_n 0, 1) := by decide +kernel
theorem dX0_note_87 : decode cX0_note 87 = .ok (.getfield 24, 3) := by decide +kernel
theorem dX0_note_90 : decode cX0_note 90 = .ok (.iconst 1, 1) := by decide +kernel
theorem dX0_note_91 : decode cX0_note 91 = .ok (.iadd, 1) := by decide +kernel
theorem dX0_note_92 : decode cX0_note 92 = .ok (.bipush 8, 2) := by decide +kernel
theorem dX0_note_94 : decode cX0_note 94 = .ok (.invokestatic 46, 3) := by decide +kernel
theorem dX0_note_97 : decode cX0_note 97 = .ok (.putfield 24, 3) := by decide +kernel
theorem dX0_note_100 : decode cX0_note 100 = .ok (.return_, 1) := by decide +kernel
theorem dX0_giveBack_0 : decode cX0_giveBack 0 = .ok (.aload_n 0, 1) := by decide +kernel
theorem dX0_giveBack_1 : decode cX0_giveBack 1 = .ok (.getfield 24, 3) := by decide +kernel
theorem dX0_giveBack_4 : decode cX0_giveBack 4 = .ok (.ifCond .le 95, 3) := by decide +kernel
theorem dX0_giveBack_7 : decode cX0_giveBack 7 = .ok (.aload_n 0, 1) := by decide +kernel
theorem dX0_giveBack_8 : decode cX0_giveBack 8 = .ok (.dup, 1) := by decide +kernel
theorem dX0_giveBack_9 : decode cX0_giveBack 9 = .ok (.getfield 24, 3) := by decide +kernel
theorem dX0_giveBack_12 : decode cX0_giveBack 12 = .ok (.iconst 1, 1) := by decide +kernel
theorem dX0_giveBack_13 : decode cX0_giveBack 13 = .ok (.isub, 1) := by decide +kernel
theorem dX0_giveBack_14 : decode cX0_giveBack 14 = .ok (.putfield 24, 3) := by decide +kernel
theorem dX0_giveBack_17 : decode cX0_giveBack 17 = .ok (.aload_n 0, 1) := by decide +kernel
theorem dX0_giveBack_18 : decode cX0_giveBack 18 = .ok (.aload_n 0, 1) := by decide +kernel
theorem dX0_giveBack_19 : decode cX0_giveBack 19 = .ok (.getfield 31, 3) := by decide +kernel
theorem dX0_giveBack_22 : decode cX0_giveBack 22 = .ok (.ifCond .le 12, 3) := by decide +kernel
theorem dX0_giveBack_25 : decode cX0_giveBack 25 = .ok (.aload_n 0, 1) := by decide +kernel
theorem dX0_giveBack_26 : decode cX0_giveBack 26 = .ok (.getfield 31, 3) := by decide +kernel
theorem dX0_giveBack_29 : decode cX0_giveBack 29 = .ok (.iconst 1, 1) := by decide +kernel
theorem dX0_giveBack_30 : decode cX0_giveBack 30 = .ok (.isub, 1) := by decide +kernel
theorem dX0_giveBack_31 : decode cX0_giveBack 31 = .ok (.goto 5, 3) := by decide +kernel
theorem dX0_giveBack_34 : decode cX0_giveBack 34 = .ok (.bipush 7, 2) := by decide +kernel
theorem dX0_giveBack_36 : decode cX0_giveBack 36 = .ok (.putfield 31, 3) := by decide +kernel
theorem dX0_giveBack_39 : decode cX0_giveBack 39 = .ok (.aload_n 0, 1) := by decide +kernel
theorem dX0_giveBack_40 : decode cX0_giveBack 40 = .ok (.getfield 9, 3) := by decide +kernel
theorem dX0_giveBack_43 : decode cX0_giveBack 43 = .ok (.aload_n 0, 1) := by decide +kernel
theorem dX0_giveBack_44 : decode cX0_giveBack 44 = .ok (.getfield 31, 3) := by decide +kernel
theorem dX0_giveBack_47 : decode cX0_giveBack 47 = .ok (.bipush 6, 2) := by decide +kernel
theorem dX0_giveBack_49 : decode cX0_giveBack 49 = .ok (.imul, 1) := by decide +kernel
theorem dX0_giveBack_50 : decode cX0_giveBack 50 = .ok (.aload_n 1, 1) := by decide +kernel
theorem dX0_giveBack_51 : decode cX0_giveBack 51 = .ok (.getfield 28, 3) := by decide +kernel
theorem dX0_giveBack_54 : decode cX0_giveBack 54 = .ok (.iconst 0, 1) := by decide +kernel
theorem dX0_giveBack_55 : decode cX0_giveBack 55 = .ok (.bipush 6, 2) := by decide +kernel
theorem dX0_giveBack_57 : decode cX0_giveBack 57 = .ok (.invokestatic 34, 3) := by decide +kernel
theorem dX0_giveBack_60 : decode cX0_giveBack 60 = .ok (.aload_n 1, 1) := by decide +kernel
theorem dX0_giveBack_61 : decode cX0_giveBack 61 = .ok (.aload_n 0, 1) := by decide +kernel
theorem dX0_giveBack_62 : decode cX0_giveBack 62 = .ok (.getfield 15, 3) := by decide +kernel
theorem dX0_giveBack_65 : decode cX0_giveBack 65 = .ok (.aload_n 0, 1) := by decide +kernel
theorem dX0_giveBack_66 : decode cX0_giveBack 66 = .ok (.getfield 31, 3) := by decide +kernel
theorem dX0_giveBack_69 : decode cX0_giveBack 69 = .ok (.iaload, 1) := by decide +kernel
theorem dX0_giveBack_70 : decode cX0_giveBack 70 = .ok (.putfield 40, 3) := by decide +kernel
theorem dX0_giveBack_73 : decode cX0_giveBack 73 = .ok (.aload_n 1, 1) := by decide +kernel
theorem dX0_giveBack_74 : decode cX0_giveBack 74 = .ok (.aload_n 0, 1) := by decide +kernel
theorem dX0_giveBack_75 : decode cX0_giveBack 75 = .ok (.getfield 18, 3) := by decide +kernel
theorem dX0_giveBack_78 : decode cX0_giveBack 78 = .ok (.aload_n 0, 1) := by decide +kernel
theorem dX0_giveBack_79 : decode cX0_giveBack 79 = .ok (.getfield 31, 3) := by decide +kernel
theorem dX0_giveBack_82 : decode cX0_giveBack 82 = .ok (.iaload, 1) := by decide +kernel
theorem dX0_giveBack_83 : decode cX0_giveBack 83 = .ok (.putfield 42, 3) := by decide +kernel
theorem dX0_giveBack_86 : decode cX0_giveBack 86 = .ok (.aload_n 1, 1) := by decide +kernel
theorem dX0_giveBack_87 : decode cX0_giveBack 87 = .ok (.aload_n 0, 1) := by decide +kernel
theorem dX0_giveBack_88 : decode cX0_giveBack 88 = .ok (.getfield 21, 3) := by decide +kernel
theorem dX0_giveBack_91 : decode cX0_giveBack 91 = .ok (.aload_n 0, 1) := by decide +kernel
theorem dX0_giveBack_92 : decode cX0_giveBack 92 = .ok (.getfield 31, 3) := by decide +kernel
theorem dX0_giveBack_95 : decode cX0_giveBack 95 = .ok (.iaload, 1) := by decide +kernel
theorem dX0_giveBack_96 : decode cX0_giveBack 96 = .ok (.putfield 44, 3) := by decide +kernel
theorem dX0_giveBack_99 : decode cX0_giveBack 99 = .ok (.return_, 1) := by decide +kernel
theorem dX0_take_0 : decode cX0_take 0 = .ok (.aload_n 1, 1) := by decide +kernel
theorem dX0_take_1 : decode cX0_take 1 = .ok (.getfield 9, 3) := by decide +kernel
theorem dX0_take_4 : decode cX0_take 4 = .ok (.iconst 0, 1) := by decide +kernel
theorem dX0_take_5 : decode cX0_take 5 = .ok (.aload_n 0, 1) := by decide +kernel
theorem dX0_take_6 : decode cX0_take 6 = .ok (.getfield 9, 3) := by decide +kernel
theorem dX0_take_9 : decode cX0_take 9 = .ok (.iconst 0, 1) := by decide +kernel
theorem dX0_take_10 : decode cX0_take 10 = .ok (.bipush 48, 2) := by decide +kernel
theorem dX0_take_12 : decode cX0_take 12 = .ok (.invokestatic 34, 3) := by decide +kernel
theorem dX0_take_15 : decode cX0_take 15 = .ok (.aload_n 1, 1) := by decide +kernel
theorem dX0_take_16 : decode cX0_take 16 = .ok (.getfield 15, 3) := by decide +kernel
theorem dX0_take_19 : decode cX0_take 19 = .ok (.iconst 0, 1) := by decide +kernel
theorem dX0_take_20 : decode cX0_take 20 = .ok (.aload_n 0, 1) := by decide +kernel
theorem dX0_take_21 : decode cX0_take 21 = .ok (.getfield 15, 3) := by decide +kernel
theorem dX0_take_24 : decode cX0_take 24 = .ok (.iconst 0, 1) := by decide +kernel
theorem dX0_take_25 : decode cX0_take 25 = .ok (.bipush 8, 2) := by decide +kernel
theorem dX0_take_27 : decode cX0_take 27 = .ok (.invokestatic 34, 3) := by decide +kernel
theorem dX0_take_30 : decode cX0_take 30 = .ok (.aload_n 1, 1) := by decide +kernel
theorem dX0_take_31 : decode cX0_take 31 = .ok (.getfield 18, 3) := by decide +kernel
theorem dX0_take_34 : decode cX0_take 34 = .ok (.iconst 0, 1) := by decide +kernel
theorem dX0_take_35 : decode cX0_take 35 = .ok (.aload_n 0, 1) := by decide +kernel
theorem dX0_take_36 : decode cX0_take 36 = .ok (.getfield 18, 3) := by decide +kernel
theorem dX0_take_39 : decode cX0_take 39 = .ok (.iconst 0, 1) := by decide +kernel
theorem dX0_take_40 : decode cX0_take 40 = .ok (.bipush 8, 2) := by decide +kernel
theorem dX0_take_42 : decode cX0_take 42 = .ok (.invokestatic 34, 3) := by decide +kernel
theorem dX0_take_45 : decode cX0_take 45 = .ok (.aload_n 1, 1) := by decide +kernel
theorem dX0_take_46 : decode cX0_take 46 = .ok (.getfield 21, 3) := by decide +kernel
theorem dX0_take_49 : decode cX0_take 49 = .ok (.iconst 0, 1) := by decide +kernel
theorem dX0_take_50 : decode cX0_take 50 = .ok (.aload_n 0, 1) := by decide +kernel
theorem dX0_take_51 : decode cX0_take 51 = .ok (.getfield 21, 3) := by decide +kernel
theorem dX0_take_54 : decode cX0_take 54 = .ok (.iconst 0, 1) := by decide +kernel
theorem dX0_take_55 : decode cX0_take 55 = .ok (.bipush 8, 2) := by decide +kernel
theorem dX0_take_57 : decode cX0_take 57 = .ok (.invokestatic 34, 3) := by decide +kernel
theorem dX0_take_60 : decode cX0_take 60 = .ok (.aload_n 0, 1) := by decide +kernel
theorem dX0_take_61 : decode cX0_take 61 = .ok (.aload_n 1, 1) := by decide +kernel
theorem dX0_take_62 : decode cX0_take 62 = .ok (.getfield 31, 3) := by decide +kernel
theorem dX0_take_65 : decode cX0_take 65 = .ok (.putfield 31, 3) := by decide +kernel
theorem dX0_take_68 : decode cX0_take 68 = .ok (.aload_n 0, 1) := by decide +kernel
theorem dX0_take_69 : decode cX0_take 69 = .ok (.aload_n 1, 1) := by decide +kernel
theorem dX0_take_70 : decode cX0_take 70 = .ok (.getfield 24, 3) := by decide +kernel
theorem dX0_take_73 : decode cX0_take 73 = .ok (.putfield 24, 3) := by decide +kernel
theorem dX0_take_76 : decode cX0_take 76 = .ok (.return_, 1) := by decide +kernel
theorem dX1_init_0 : decode cX1_init 0 = .ok (.aload_n 0, 1) := by decide +kernel
theorem dX1_init_1 : decode cX1_init 1 = .ok (.invokespecial 3, 3) := by decide +kernel
theorem dX1_init_4 : decode cX1_init 4 = .ok (.aload_n 0, 1) := by decide +kernel
theorem dX1_init_5 : decode cX1_init 5 = .ok (.bipush 6, 2) := by decide +kernel
theorem dX1_init_7 : decode cX1_init 7 = .ok (.newarray .int, 2) := by decide +kernel
theorem dX1_init_9 : decode cX1_init 9 = .ok (.putfield 9, 3) := by decide +kernel
theorem dX1_init_12 : decode cX1_init 12 = .ok (.aload_n 0, 1) := by decide +kernel
theorem dX1_init_13 : decode cX1_init 13 = .ok (.bipush 6, 2) := by decide +kernel
theorem dX1_init_15 : decode cX1_init 15 = .ok (.newarray .int, 2) := by decide +kernel
theorem dX1_init_17 : decode cX1_init 17 = .ok (.putfield 15, 3) := by decide +kernel
theorem dX1_init_20 : decode cX1_init 20 = .ok (.aload_n 0, 1) := by decide +kernel
theorem dX1_init_21 : decode cX1_init 21 = .ok (.bipush 6, 2) := by decide +kernel
theorem dX1_init_23 : decode cX1_init 23 = .ok (.newarray .int, 2) := by decide +kernel
theorem dX1_init_25 : decode cX1_init 25 = .ok (.putfield 18, 3) := by decide +kernel
theorem dX1_init_28 : decode cX1_init 28 = .ok (.aload_n 0, 1) := by decide +kernel
theorem dX1_init_29 : decode cX1_init 29 = .ok (.bipush 6, 2) := by decide +kernel
theorem dX1_init_31 : decode cX1_init 31 = .ok (.newarray .int, 2) := by decide +kernel
theorem dX1_init_33 : decode cX1_init 33 = .ok (.putfield 21, 3) := by decide +kernel
theorem dX1_init_36 : decode cX1_init 36 = .ok (.aload_n 0, 1) := by decide +kernel
theorem dX1_init_37 : decode cX1_init 37 = .ok (.iconst 1, 1) := by decide +kernel
theorem dX1_init_38 : decode cX1_init 38 = .ok (.putfield 24, 3) := by decide +kernel
theorem dX1_init_41 : decode cX1_init 41 = .ok (.aload_n 0, 1) := by decide +kernel
theorem dX1_init_42 : decode cX1_init 42 = .ok (.iconst 2, 1) := by decide +kernel
theorem dX1_init_43 : decode cX1_init 43 = .ok (.putfield 28, 3) := by decide +kernel
theorem dX1_init_46 : decode cX1_init 46 = .ok (.aload_n 0, 1) := by decide +kernel
theorem dX1_init_47 : decode cX1_init 47 = .ok (.iconst 1, 1) := by decide +kernel
theorem dX1_init_48 : decode cX1_init 48 = .ok (.putfield 31, 3) := by decide +kernel
theorem dX1_init_51 : decode cX1_init 51 = .ok (.aload_n 0, 1) := by decide +kernel
theorem dX1_init_52 : decode cX1_init 52 = .ok (.bipush 6, 2) := by decide +kernel
theorem dX1_init_54 : decode cX1_init 54 = .ok (.newarray .int, 2) := by decide +kernel
theorem dX1_init_56 : decode cX1_init 56 = .ok (.putfield 34, 3) := by decide +kernel
theorem dX1_init_59 : decode cX1_init 59 = .ok (.return_, 1) := by decide +kernel
theorem dX1_take_0 : decode cX1_take 0 = .ok (.aload_n 1, 1) := by decide +kernel
theorem dX1_take_1 : decode cX1_take 1 = .ok (.getfield 9, 3) := by decide +kernel
theorem dX1_take_4 : decode cX1_take 4 = .ok (.iconst 0, 1) := by decide +kernel
theorem dX1_take_5 : decode cX1_take 5 = .ok (.aload_n 0, 1) := by decide +kernel
theorem dX1_take_6 : decode cX1_take 6 = .ok (.getfield 9, 3) := by decide +kernel
theorem dX1_take_9 : decode cX1_take 9 = .ok (.iconst 0, 1) := by decide +kernel
theorem dX1_take_10 : decode cX1_take 10 = .ok (.bipush 6, 2) := by decide +kernel
theorem dX1_take_12 : decode cX1_take 12 = .ok (.invokestatic 37, 3) := by decide +kernel
theorem dX1_take_15 : decode cX1_take 15 = .ok (.aload_n 1, 1) := by decide +kernel
theorem dX1_take_16 : decode cX1_take 16 = .ok (.getfield 15, 3) := by decide +kernel
theorem dX1_take_19 : decode cX1_take 19 = .ok (.iconst 0, 1) := by decide +kernel
theorem dX1_take_20 : decode cX1_take 20 = .ok (.aload_n 0, 1) := by decide +kernel
theorem dX1_take_21 : decode cX1_take 21 = .ok (.getfield 15, 3) := by decide +kernel
theorem dX1_take_24 : decode cX1_take 24 = .ok (.iconst 0, 1) := by decide +kernel
theorem dX1_take_25 : decode cX1_take 25 = .ok (.bipush 6, 2) := by decide +kernel
theorem dX1_take_27 : decode cX1_take 27 = .ok (.invokestatic 37, 3) := by decide +kernel
theorem dX1_take_30 : decode cX1_take 30 = .ok (.aload_n 1, 1) := by decide +kernel
theorem dX1_take_31 : decode cX1_take 31 = .ok (.getfield 18, 3) := by decide +kernel
theorem dX1_take_34 : decode cX1_take 34 = .ok (.iconst 0, 1) := by decide +kernel
theorem dX1_take_35 : decode cX1_take 35 = .ok (.aload_n 0, 1) := by decide +kernel
theorem dX1_take_36 : decode cX1_take 36 = .ok (.getfield 18, 3) := by decide +kernel
theorem dX1_take_39 : decode cX1_take 39 = .ok (.iconst 0, 1) := by decide +kernel
theorem dX1_take_40 : decode cX1_take 40 = .ok (.bipush 6, 2) := by decide +kernel
theorem dX1_take_42 : decode cX1_take 42 = .ok (.invokestatic 37, 3) := by decide +kernel
theorem dX1_take_45 : decode cX1_take 45 = .ok (.aload_n 1, 1) := by decide +kernel
theorem dX1_take_46 : decode cX1_take 46 = .ok (.getfield 21, 3) := by decide +kernel
theorem dX1_take_49 : decode cX1_take 49 = .ok (.iconst 0, 1) := by decide +kernel
theorem dX1_take_50 : decode cX1_take 50 = .ok (.aload_n 0, 1) := by decide +kernel
theorem dX1_take_51 : decode cX1_take 51 = .ok (.getfield 21, 3) := by decide +kernel
theorem dX1_take_54 : decode cX1_take 54 = .ok (.iconst 0, 1) := by decide +kernel
theorem dX1_take_55 : decode cX1_take 55 = .ok (.bipush 6, 2) := by decide +kernel
theorem dX1_take_57 : decode cX1_take 57 = .ok (.invokestatic 37, 3) := by decide +kernel
theorem dX1_take_60 : decode cX1_take 60 = .ok (.aload_n 0, 1) := by decide +kernel
theorem dX1_take_61 : decode cX1_take 61 = .ok (.aload_n 1, 1) := by decide +kernel
theorem dX1_take_62 : decode cX1_take 62 = .ok (.getfield 43, 3) := by decide +kernel
theorem dX1_take_65 : decode cX1_take 65 = .ok (.putfield 43, 3) := by decide +kernel
theorem dX1_take_68 : decode cX1_take 68 = .ok (.aload_n 0, 1) := by decide +kernel
theorem dX1_take_69 : decode cX1_take 69 = .ok (.aload_n 1, 1) := by decide +kernel
theorem dX1_take_70 : decode cX1_take 70 = .ok (.getfield 46, 3) := by decide +kernel
theorem dX1_take_73 : decode cX1_take 73 = .ok (.putfield 46, 3) := by decide +kernel
theorem dX1_take_76 : decode cX1_take 76 = .ok (.aload_n 0, 1) := by decide +kernel
theorem dX1_take_77 : decode cX1_take 77 = .ok (.aload_n 1, 1) := by decide +kernel
theorem dX1_take_78 : decode cX1_take 78 = .ok (.getfield 24, 3) := by decide +kernel
theorem dX1_take_81 : decode cX1_take 81 = .ok (.putfield 24, 3) := by decide +kernel
theorem dX1_take_84 : decode cX1_take 84 = .ok (.aload_n 0, 1) := by decide +kernel
theorem dX1_take_85 : decode cX1_take 85 = .ok (.aload_n 1, 1) := by decide +kernel
theorem dX1_take_86 : decode cX1_take 86 = .ok (.getfield 28, 3) := by decide +kernel
theorem dX1_take_89 : decode cX1_take 89 = .ok (.putfield 28, 3) := by decide +kernel
theorem dX1_take_92 : decode cX1_take 92 = .ok (.aload_n 0, 1) := by decide +kernel
theorem dX1_take_93 : decode cX1_take 93 = .ok (.aload_n 1, 1) := by decide +kernel
theorem dX1_take_94 : decode cX1_take 94 = .ok (.getfield 49, 3) := by decide +kernel
theorem dX1_take_97 : decode cX1_take 97 = .ok (.putfield 49, 3) := by decide +kernel
theorem dX1_take_100 : decode cX1_take 100 = .ok (.aload_n 0, 1) := by decide +kernel
theorem dX1_take_101 : decode cX1_take 101 = .ok (.aload_n 1, 1) := by decide +kernel
theorem dX1_take_102 : decode cX1_take 102 = .ok (.getfield 31, 3) := by decide +kernel
theorem dX1_take_105 : decode cX1_take 105 = .ok (.putfield 31, 3) := by decide +kernel
theorem dX1_take_108 : decode cX1_take 108 = .ok (.return_, 1) := by decide +kernel
theorem dX1_empty_0 : decode cX1_empty 0 = .ok (.aload_n 0, 1) := by decide +kernel
theorem dX1_empty_1 : decode cX1_empty 1 = .ok (.iconst 0, 1) := by decide +kernel
theorem dX1_empty_2 : decode cX1_empty 2 = .ok (.putfield 43, 3) := by decide +kernel
theorem dX1_empty_5 : decode cX1_empty 5 = .ok (.aload_n 0, 1) := by decide +kernel
theorem dX1_empty_6 : decode cX1_empty 6 = .ok (.iconst 0, 1) := by decide +kernel
theorem dX1_empty_7 : decode cX1_empty 7 = .ok (.putfield 46, 3) := by decide +kernel
theorem dX1_empty_10 : decode cX1_empty 10 = .ok (.aload_n 0, 1) := by decide +kernel
theorem dX1_empty_11 : decode cX1_empty 11 = .ok (.iconst 0, 1) := by decide +kernel
theorem dX1_empty_12 : decode cX1_empty 12 = .ok (.putfield 49, 3) := by decide +kernel
theorem dX1_empty_15 : decode cX1_empty 15 = .ok (.return_, 1) := by decide +kernel
theorem dX1_seatNew_0 : decode cX1_seatNew 0 = .ok (.aload_n 0, 1) := by decide +kernel
theorem dX1_seatNew_1 : decode cX1_seatNew 1 = .ok (.getfield 43, 3) := by decide +kernel
theorem dX1_seatNew_4 : decode cX1_seatNew 4 = .ok (.bipush 6, 2) := by decide +kernel
theorem dX1_seatNew_6 : decode cX1_seatNew 6 = .ok (.if_icmp .ge 68, 3) := by decide +kernel
theorem dX1_seatNew_9 : decode cX1_seatNew 9 = .ok (.aload_n 0, 1) := by decide +kernel
theorem dX1_seatNew_10 : decode cX1_seatNew 10 = .ok (.getfield 9, 3) := by decide +kernel
theorem dX1_seatNew_13 : decode cX1_seatNew 13 = .ok (.aload_n 0, 1) := by decide +kernel
theorem dX1_seatNew_14 : decode cX1_seatNew 14 = .ok (.getfield 43, 3) := by decide +kernel
theorem dX1_seatNew_17 : decode cX1_seatNew 17 = .ok (.iload_n 1, 1) := by decide +kernel
theorem dX1_seatNew_18 : decode cX1_seatNew 18 = .ok (.iastore, 1) := by decide +kernel
theorem dX1_seatNew_19 : decode cX1_seatNew 19 = .ok (.aload_n 0, 1) := by decide +kernel
theorem dX1_seatNew_20 : decode cX1_seatNew 20 = .ok (.getfield 15, 3) := by decide +kernel
theorem dX1_seatNew_23 : decode cX1_seatNew 23 = .ok (.aload_n 0, 1) := by decide +kernel
theorem dX1_seatNew_24 : decode cX1_seatNew 24 = .ok (.getfield 43, 3) := by decide +kernel
theorem dX1_seatNew_27 : decode cX1_seatNew 27 = .ok (.iload_n 2, 1) := by decide +kernel
theorem dX1_seatNew_28 : decode cX1_seatNew 28 = .ok (.iastore, 1) := by decide +kernel
theorem dX1_seatNew_29 : decode cX1_seatNew 29 = .ok (.aload_n 0, 1) := by decide +kernel
theorem dX1_seatNew_30 : decode cX1_seatNew 30 = .ok (.getfield 18, 3) := by decide +kernel
theorem dX1_seatNew_33 : decode cX1_seatNew 33 = .ok (.aload_n 0, 1) := by decide +kernel
theorem dX1_seatNew_34 : decode cX1_seatNew 34 = .ok (.getfield 43, 3) := by decide +kernel
theorem dX1_seatNew_37 : decode cX1_seatNew 37 = .ok (.iload_n 3, 1) := by decide +kernel
theorem dX1_seatNew_38 : decode cX1_seatNew 38 = .ok (.iastore, 1) := by decide +kernel
theorem dX1_seatNew_39 : decode cX1_seatNew 39 = .ok (.aload_n 0, 1) := by decide +kernel
theorem dX1_seatNew_40 : decode cX1_seatNew 40 = .ok (.getfield 21, 3) := by decide +kernel
theorem dX1_seatNew_43 : decode cX1_seatNew 43 = .ok (.aload_n 0, 1) := by decide +kernel
theorem dX1_seatNew_44 : decode cX1_seatNew 44 = .ok (.getfield 43, 3) := by decide +kernel
theorem dX1_seatNew_47 : decode cX1_seatNew 47 = .ok (.iconst 0, 1) := by decide +kernel
theorem dX1_seatNew_48 : decode cX1_seatNew 48 = .ok (.iastore, 1) := by decide +kernel
theorem dX1_seatNew_49 : decode cX1_seatNew 49 = .ok (.aload_n 0, 1) := by decide +kernel
theorem dX1_seatNew_50 : decode cX1_seatNew 50 = .ok (.dup, 1) := by decide +kernel
theorem dX1_seatNew_51 : decode cX1_seatNew 51 = .ok (.getfield 46, 3) := by decide +kernel
theorem dX1_seatNew_54 : decode cX1_seatNew 54 = .ok (.iconst 1, 1) := by decide +kernel
theorem dX1_seatNew_55 : decode cX1_seatNew 55 = .ok (.aload_n 0, 1) := by decide +kernel
theorem dX1_seatNew_56 : decode cX1_seatNew 56 = .ok (.getfield 43, 3) := by decide +kernel
theorem dX1_seatNew_59 : decode cX1_seatNew 59 = .ok (.ishl, 1) := by decide +kernel
theorem dX1_seatNew_60 : decode cX1_seatNew 60 = .ok (.ior, 1) := by decide +kernel
theorem dX1_seatNew_61 : decode cX1_seatNew 61 = .ok (.putfield 46, 3) := by decide +kernel
theorem dX1_seatNew_64 : decode cX1_seatNew 64 = .ok (.aload_n 0, 1) := by decide +kernel
theorem dX1_seatNew_65 : decode cX1_seatNew 65 = .ok (.dup, 1) := by decide +kernel
theorem dX1_seatNew_66 : decode cX1_seatNew 66 = .ok (.getfield 43, 3) := by decide +kernel
theorem dX1_seatNew_69 : decode cX1_seatNew 69 = .ok (.iconst 1, 1) := by decide +kernel
theorem dX1_seatNew_70 : decode cX1_seatNew 70 = .ok (.iadd, 1) := by decide +kernel
theorem dX1_seatNew_71 : decode cX1_seatNew 71 = .ok (.putfield 43, 3) := by decide +kernel
theorem dX1_seatNew_74 : decode cX1_seatNew 74 = .ok (.return_, 1) := by decide +kernel
theorem dX1_isSmoking_0 : decode cX1_isSmoking 0 = .ok (.aload_n 0, 1) := by decide +kernel
theorem dX1_isSmoking_1 : decode cX1_isSmoking 1 = .ok (.getfield 46, 3) := by decide +kernel
theorem dX1_isSmoking_4 : decode cX1_isSmoking 4 = .ok (.iload_n 1, 1) := by decide +kernel
theorem dX1_isSmoking_5 : decode cX1_isSmoking 5 = .ok (.ishr, 1) := by decide +kernel
theorem dX1_isSmoking_6 : decode cX1_isSmoking 6 = .ok (.iconst 1, 1) := by decide +kernel
theorem dX1_isSmoking_7 : decode cX1_isSmoking 7 = .ok (.iand, 1) := by decide +kernel
theorem dX1_isSmoking_8 : decode cX1_isSmoking 8 = .ok (.ifCond .eq 7, 3) := by decide +kernel
theorem dX1_isSmoking_11 : decode cX1_isSmoking 11 = .ok (.iconst 1, 1) := by decide +kernel
theorem dX1_isSmoking_12 : decode cX1_isSmoking 12 = .ok (.goto 4, 3) := by decide +kernel
theorem dX1_isSmoking_15 : decode cX1_isSmoking 15 = .ok (.iconst 0, 1) := by decide +kernel
theorem dX1_isSmoking_16 : decode cX1_isSmoking 16 = .ok (.ireturn, 1) := by decide +kernel
set_option maxRecDepth 20000 in
theorem ggX1_holds_X1_isSmoking : GoodIn wsX1_holds wsX1_isSmoking := goodIn_r _ [13, 14, 15, 16, 17, 18, 19, 20, 21, 22, 23, 24, 25, 26] (by decide +kernel) (by decide +kernel)
set_option maxRecDepth 20000 in
theorem gX1_holds_X1_isSmoking : GoodIn wsX1_holds (wsV RX1 52 RX1 yX1_isSmoking wsX1_isSmoking) := goodIn_app (goodIn_of _ (by decide +kernel)) ggX1_holds_X1_isSmoking
theorem dX1_holds_0 : decode cX1_holds 0 = .ok (.aload_n 0, 1) := by decide +kernel
theorem dX1_holds_1 : decode cX1_holds 1 = .ok (.iload_n 1, 1) := by decide +kernel
theorem dX1_holds_2 : decode cX1_holds 2 = .ok (.invokevirtual 52, 3) := by decide +kernel
theorem dX1_holds_5 : decode cX1_holds 5 = .ok (.ifCond .ne 7, 3) := by decide +kernel
theorem dX1_holds_8 : decode cX1_holds 8 = .ok (.sipush 1000, 3) := by decide +kernel
theorem dX1_holds_11 : decode cX1_holds 11 = .ok (.ireturn, 1) := by decide +kernel
theorem dX1_holds_12 : decode cX1_holds 12 = .ok (.iconst 0, 1) := by decide +kernel
theorem dX1_holds_13 : decode cX1_holds 13 = .ok (.iconst 3, 1) := by decide +kernel
theorem dX1_holds_14 : decode cX1_holds 14 = .ok (.aload_n 0, 1) := by decide +kernel
theorem dX1_holds_15 : decode cX1_holds 15 = .ok (.getfield 18, 3) := by decide +kernel
theorem dX1_holds_18 : decode cX1_holds 18 = .ok (.iload_n 1, 1) := by decide +kernel
theorem dX1_holds_19 : decode cX1_holds 19 = .ok (.iaload, 1) := by decide +kernel
theorem dX1_holds_20 : decode cX1_holds 20 = .ok (.imul, 1) := by decide +kernel
theorem dX1_holds_21 : decode cX1_holds 21 = .ok (.aload_n 0, 1) := by decide +kernel
theorem dX1_holds_22 : decode cX1_holds 22 = .ok (.getfield 21, 3) := by decide +kernel
theorem dX1_holds_25 : decode cX1_holds 25 = .ok (.iload_n 1, 1) := by decide +kernel
theorem dX1_holds_26 : decode cX1_holds 26 = .ok (.iaload, 1) := by decide +kernel
theorem dX1_holds_27 : decode cX1_holds 27 = .ok (.bipush 10, 2) := by decide +kernel
theorem dX1_holds_29 : decode cX1_holds 29 = .ok (.idiv, 1) := by decide +kernel
theorem dX1_holds_30 : decode cX1_holds 30 = .ok (.isub, 1) := by decide +kernel
theorem dX1_holds_31 : decode cX1_holds 31 = .ok (.invokestatic 56, 3) := by decide +kernel
theorem dX1_holds_34 : decode cX1_holds 34 = .ok (.istore_n 2, 1) := by decide +kernel
theorem dX1_holds_35 : decode cX1_holds 35 = .ok (.aload_n 0, 1) := by decide +kernel
theorem dX1_holds_36 : decode cX1_holds 36 = .ok (.getfield 9, 3) := by decide +kernel
theorem dX1_holds_39 : decode cX1_holds 39 = .ok (.iload_n 1, 1) := by decide +kernel
theorem dX1_holds_40 : decode cX1_holds 40 = .ok (.iaload, 1) := by decide +kernel
theorem dX1_holds_41 : decode cX1_holds 41 = .ok (.tableswitch 65 1 4 #[31, 61, 39, 61], 31) := by decide +kernel
theorem dX1_holds_72 : decode cX1_holds 72 = .ok (.iconst 0, 1) := by decide +kernel
theorem dX1_holds_73 : decode cX1_holds 73 = .ok (.iload_n 2, 1) := by decide +kernel
theorem dX1_holds_74 : decode cX1_holds 74 = .ok (.iconst 3, 1) := by decide +kernel
theorem dX1_holds_75 : decode cX1_holds 75 = .ok (.isub, 1) := by decide +kernel
theorem dX1_holds_76 : decode cX1_holds 76 = .ok (.invokestatic 56, 3) := by decide +kernel
theorem dX1_holds_79 : decode cX1_holds 79 = .ok (.ireturn, 1) := by decide +kernel
theorem dX1_holds_80 : decode cX1_holds 80 = .ok (.aload_n 0, 1) := by decide +kernel
theorem dX1_holds_81 : decode cX1_holds 81 = .ok (.getfield 49, 3) := by decide +kernel
theorem dX1_holds_84 : decode cX1_holds 84 = .ok (.bipush 10, 2) := by decide +kernel
theorem dX1_holds_86 : decode cX1_holds 86 = .ok (.irem, 1) := by decide +kernel
theorem dX1_holds_87 : decode cX1_holds 87 = .ok (.ifCond .ne 7, 3) := by decide +kernel
theorem dX1_holds_90 : decode cX1_holds 90 = .ok (.iconst 0, 1) := by decide +kernel
theorem dX1_holds_91 : decode cX1_holds 91 = .ok (.goto 10, 3) := by decide +kernel
theorem dX1_holds_94 : decode cX1_holds 94 = .ok (.iconst 0, 1) := by decide +kernel
theorem dX1_holds_95 : decode cX1_holds 95 = .ok (.iload_n 2, 1) := by decide +kernel
theorem dX1_holds_96 : decode cX1_holds 96 = .ok (.iconst 3, 1) := by decide +kernel
theorem dX1_holds_97 : decode cX1_holds 97 = .ok (.isub, 1) := by decide +kernel
theorem dX1_holds_98 : decode cX1_holds 98 = .ok (.invokestatic 56, 3) := by decide +kernel
theorem dX1_holds_101 : decode cX1_holds 101 = .ok (.ireturn, 1) := by decide +kernel
theorem dX1_holds_102 : decode cX1_holds 102 = .ok (.iload_n 2, 1) := by decide +kernel
theorem dX1_holds_103 : decode cX1_holds 103 = .ok (.iconst 5, 1) := by decide +kernel
theorem dX1_holds_104 : decode cX1_holds 104 = .ok (.iadd, 1) := by decide +kernel
theorem dX1_holds_105 : decode cX1_holds 105 = .ok (.ireturn, 1) := by decide +kernel
theorem dX1_holds_106 : decode cX1_holds 106 = .ok (.iload_n 2, 1) := by decide +kernel
theorem dX1_holds_107 : decode cX1_holds 107 = .ok (.ireturn, 1) := by decide +kernel
set_option maxRecDepth 20000 in
theorem ggX1_grow_X1_isSmoking : GoodIn wsX1_grow wsX1_isSmoking := goodIn_r _ [9, 10, 11, 12, 13, 14, 15, 16, 17, 18, 19, 20, 21, 22] (by decide +kernel) (by decide +kernel)
set_option maxRecDepth 20000 in
theorem gX1_grow_X1_isSmoking : GoodIn wsX1_grow (wsV RX1 52 RX1 yX1_isSmoking wsX1_isSmoking) := goodIn_app (goodIn_of _ (by decide +kernel)) ggX1_grow_X1_isSmoking
theorem dX1_grow_0 : decode cX1_grow 0 = .ok (.iconst 0, 1) := by decide +kernel
theorem dX1_grow_1 : decode cX1_grow 1 = .ok (.istore_n 1, 1) := by decide +kernel
theorem dX1_grow_2 : decode cX1_grow 2 = .ok (.iload_n 1, 1) := by decide +kernel
theorem dX1_grow_3 : decode cX1_grow 3 = .ok (.aload_n 0, 1) := by decide +kernel
theorem dX1_grow_4 : decode cX1_grow 4 = .ok (.getfield 43, 3) := by decide +kernel
theorem dX1_grow_7 : decode cX1_grow 7 = .ok (.if_icmp .ge 67, 3) := by decide +kernel
theorem dX1_grow_10 : decode cX1_grow 10 = .ok (.aload_n 0, 1) := by decide +kernel
theorem dX1_grow_11 : decode cX1_grow 11 = .ok (.getfield 9, 3) := by decide +kernel
theorem dX1_grow_14 : decode cX1_grow 14 = .ok (.iload_n 1, 1) := by decide +kernel
theorem dX1_grow_15 : decode cX1_grow 15 = .ok (.iaload, 1) := by decide +kernel
theorem dX1_grow_16 : decode cX1_grow 16 = .ok (.iconst 4, 1) := by decide +kernel
theorem dX1_grow_17 : decode cX1_grow 17 = .ok (.if_icmp .ne 16, 3) := by decide +kernel
theorem dX1_grow_20 : decode cX1_grow 20 = .ok (.aload_n 0, 1) := by decide +kernel
theorem dX1_grow_21 : decode cX1_grow 21 = .ok (.getfield 49, 3) := by decide +kernel
theorem dX1_grow_24 : decode cX1_grow 24 = .ok (.iconst 2, 1) := by decide +kernel
theorem dX1_grow_25 : decode cX1_grow 25 = .ok (.irem, 1) := by decide +kernel
theorem dX1_grow_26 : decode cX1_grow 26 = .ok (.ifCond .eq 7, 3) := by decide +kernel
theorem dX1_grow_29 : decode cX1_grow 29 = .ok (.iconst 1, 1) := by decide +kernel
theorem dX1_grow_30 : decode cX1_grow 30 = .ok (.goto 4, 3) := by decide +kernel
theorem dX1_grow_33 : decode cX1_grow 33 = .ok (.iconst 0, 1) := by decide +kernel
theorem dX1_grow_34 : decode cX1_grow 34 = .ok (.istore_n 2, 1) := by decide +kernel
theorem dX1_grow_35 : decode cX1_grow 35 = .ok (.aload_n 0, 1) := by decide +kernel
theorem dX1_grow_36 : decode cX1_grow 36 = .ok (.iload_n 1, 1) := by decide +kernel
theorem dX1_grow_37 : decode cX1_grow 37 = .ok (.invokevirtual 52, 3) := by decide +kernel
theorem dX1_grow_40 : decode cX1_grow 40 = .ok (.ifCond .eq 28, 3) := by decide +kernel
theorem dX1_grow_43 : decode cX1_grow 43 = .ok (.iload_n 2, 1) := by decide +kernel
theorem dX1_grow_44 : decode cX1_grow 44 = .ok (.ifCond .ne 24, 3) := by decide +kernel
theorem dX1_grow_47 : decode cX1_grow 47 = .ok (.aload_n 0, 1) := by decide +kernel
theorem dX1_grow_48 : decode cX1_grow 48 = .ok (.getfield 21, 3) := by decide +kernel
theorem dX1_grow_51 : decode cX1_grow 51 = .ok (.iload_n 1, 1) := by decide +kernel
theorem dX1_grow_52 : decode cX1_grow 52 = .ok (.iaload, 1) := by decide +kernel
theorem dX1_grow_53 : decode cX1_grow 53 = .ok (.bipush 99, 2) := by decide +kernel
theorem dX1_grow_55 : decode cX1_grow 55 = .ok (.if_icmp .ge 13, 3) := by decide +kernel
theorem dX1_grow_58 : decode cX1_grow 58 = .ok (.aload_n 0, 1) := by decide +kernel
theorem dX1_grow_59 : decode cX1_grow 59 = .ok (.getfield 21, 3) := by decide +kernel
theorem dX1_grow_62 : decode cX1_grow 62 = .ok (.iload_n 1, 1) := by decide +kernel
theorem dX1_grow_63 : decode cX1_grow 63 = .ok (.dup2, 1) := by decide +kernel
theorem dX1_grow_64 : decode cX1_grow 64 = .ok (.iaload, 1) := by decide +kernel
theorem dX1_grow_65 : decode cX1_grow 65 = .ok (.iconst 1, 1) := by decide +kernel
theorem dX1_grow_66 : decode cX1_grow 66 = .ok (.iadd, 1) := by decide +kernel
theorem dX1_grow_67 : decode cX1_grow 67 = .ok (.iastore, 1) := by decide +kernel
theorem dX1_grow_68 : decode cX1_grow 68 = .ok (.iinc 1 1, 3) := by decide +kernel
theorem dX1_grow_71 : decode cX1_grow 71 = .ok (.goto (-69), 3) := by decide +kernel
theorem dX1_grow_74 : decode cX1_grow 74 = .ok (.aload_n 0, 1) := by decide +kernel
theorem dX1_grow_75 : decode cX1_grow 75 = .ok (.dup, 1) := by decide +kernel
theorem dX1_grow_76 : decode cX1_grow 76 = .ok (.getfield 49, 3) := by decide +kernel
theorem dX1_grow_79 : decode cX1_grow 79 = .ok (.iconst 1, 1) := by decide +kernel
theorem dX1_grow_80 : decode cX1_grow 80 = .ok (.iadd, 1) := by decide +kernel
theorem dX1_grow_81 : decode cX1_grow 81 = .ok (.putfield 49, 3) := by decide +kernel
theorem dX1_grow_84 : decode cX1_grow 84 = .ok (.return_, 1) := by decide +kernel
set_option maxRecDepth 20000 in
theorem ggX1_jolt_X1_strike : GoodIn wsX1_jolt wsX1_strike := goodIn_r _ [9, 10, 2, 11, 12, 13, 14, 15, 16, 17, 18, 1, 3, 19, 20, 21, 8, 22, 23, 24, 25, 26, 27, 28, 29, 30, 31, 32, 33, 34, 35, 36, 37, 38, 39, 40, 41, 42] (by decide +kernel) (by decide +kernel)
set_option maxRecDepth 20000 in
theorem gX1_jolt_X1_strike : GoodIn wsX1_jolt (wsV RX1 65 RX1 yX1_strike wsX1_strike) := goodIn_app (goodIn_of _ (by decide +kernel)) ggX1_jolt_X1_strike
theorem dX1_jolt_0 : decode cX1_jolt 0 = .ok (.aload_n 0, 1) := by decide +kernel
theorem dX1_jolt_1 : decode cX1_jolt 1 = .ok (.iconst 0, 1) := by decide +kernel
theorem dX1_jolt_2 : decode cX1_jolt 2 = .ok (.putfield 62, 3) := by decide +kernel
theorem dX1_jolt_5 : decode cX1_jolt 5 = .ok (.aload_n 0, 1) := by decide +kernel
theorem dX1_jolt_6 : decode cX1_jolt 6 = .ok (.iload_n 1, 1) := by decide +kernel
theorem dX1_jolt_7 : decode cX1_jolt 7 = .ok (.iload_n 2, 1) := by decide +kernel
theorem dX1_jolt_8 : decode cX1_jolt 8 = .ok (.invokevirtual 65, 3) := by decide +kernel
theorem dX1_jolt_11 : decode cX1_jolt 11 = .ok (.istore_n 3, 1) := by decide +kernel
theorem dX1_jolt_12 : decode cX1_jolt 12 = .ok (.iconst 0, 1) := by decide +kernel
theorem dX1_jolt_13 : decode cX1_jolt 13 = .ok (.istore 4, 2) := by decide +kernel
theorem dX1_jolt_15 : decode cX1_jolt 15 = .ok (.iload 4, 2) := by decide +kernel
theorem dX1_jolt_17 : decode cX1_jolt 17 = .ok (.bipush 6, 2) := by decide +kernel
theorem dX1_jolt_19 : decode cX1_jolt 19 = .ok (.if_icmp .ge 41, 3) := by decide +kernel
theorem dX1_jolt_22 : decode cX1_jolt 22 = .ok (.iload 4, 2) := by decide +kernel
theorem dX1_jolt_24 : decode cX1_jolt 24 = .ok (.aload_n 0, 1) := by decide +kernel
theorem dX1_jolt_25 : decode cX1_jolt 25 = .ok (.getfield 62, 3) := by decide +kernel
theorem dX1_jolt_28 : decode cX1_jolt 28 = .ok (.if_icmp .ge 32, 3) := by decide +kernel
theorem dX1_jolt_31 : decode cX1_jolt 31 = .ok (.iload_n 3, 1) := by decide +kernel
theorem dX1_jolt_32 : decode cX1_jolt 32 = .ok (.aload_n 0, 1) := by decide +kernel
theorem dX1_jolt_33 : decode cX1_jolt 33 = .ok (.aload_n 0, 1) := by decide +kernel
theorem dX1_jolt_34 : decode cX1_jolt 34 = .ok (.getfield 15, 3) := by decide +kernel
theorem dX1_jolt_37 : decode cX1_jolt 37 = .ok (.aload_n 0, 1) := by decide +kernel
theorem dX1_jolt_38 : decode cX1_jolt 38 = .ok (.getfield 34, 3) := by decide +kernel
theorem dX1_jolt_41 : decode cX1_jolt 41 = .ok (.iload 4, 2) := by decide +kernel
theorem dX1_jolt_43 : decode cX1_jolt 43 = .ok (.iaload, 1) := by decide +kernel
theorem dX1_jolt_44 : decode cX1_jolt 44 = .ok (.iaload, 1) := by decide +kernel
theorem dX1_jolt_45 : decode cX1_jolt 45 = .ok (.aload_n 0, 1) := by decide +kernel
theorem dX1_jolt_46 : decode cX1_jolt 46 = .ok (.getfield 28, 3) := by decide +kernel
theorem dX1_jolt_49 : decode cX1_jolt 49 = .ok (.invokevirtual 65, 3) := by decide +kernel
theorem dX1_jolt_52 : decode cX1_jolt 52 = .ok (.ior, 1) := by decide +kernel
theorem dX1_jolt_53 : decode cX1_jolt 53 = .ok (.istore_n 3, 1) := by decide +kernel
theorem dX1_jolt_54 : decode cX1_jolt 54 = .ok (.iinc 4 1, 3) := by decide +kernel
theorem dX1_jolt_57 : decode cX1_jolt 57 = .ok (.goto (-42), 3) := by decide +kernel
theorem dX1_jolt_60 : decode cX1_jolt 60 = .ok (.iload_n 3, 1) := by decide +kernel
theorem dX1_jolt_61 : decode cX1_jolt 61 = .ok (.ireturn, 1) := by decide +kernel
set_option maxRecDepth 20000 in
theorem ggX1_strike_X1_holds : GoodIn wsX1_strike wsX1_holds := goodIn_r _ [17, 18, 10, 7, 8, 5, 9, 19, 20, 21, 22, 23, 16, 24, 25, 26, 27, 28, 29, 30, 31, 32, 33, 34, 35, 36, 37] (by decide +kernel) (by decide +kernel)
set_option maxRecDepth 20000 in
theorem gX1_strike_X1_holds : GoodIn wsX1_strike (wsV RX1 72 RX1 yX1_holds wsX1_holds) := goodIn_app (goodIn_of _ (by decide +kernel)) ggX1_strike_X1_holds
theorem dX1_strike_0 : decode cX1_strike 0 = .ok (.iconst 0, 1) := by decide +kernel
theorem dX1_strike_1 : decode cX1_strike 1 = .ok (.istore_n 3, 1) := by decide +kernel
theorem dX1_strike_2 : decode cX1_strike 2 = .ok (.iconst 0, 1) := by decide +kernel
theorem dX1_strike_3 : decode cX1_strike 3 = .ok (.istore 4, 2) := by decide +kernel
theorem dX1_strike_5 : decode cX1_strike 5 = .ok (.iload 4, 2) := by decide +kernel
theorem dX1_strike_7 : decode cX1_strike 7 = .ok (.aload_n 0, 1) := by decide +kernel
theorem dX1_strike_8 : decode cX1_strike 8 = .ok (.getfield 43, 3) := by decide +kernel
theorem dX1_strike_11 : decode cX1_strike 11 = .ok (.if_icmp .ge 109, 3) := by decide +kernel
theorem dX1_strike_14 : decode cX1_strike 14 = .ok (.iconst 0, 1) := by decide +kernel
theorem dX1_strike_15 : decode cX1_strike 15 = .ok (.iload_n 2, 1) := by decide +kernel
theorem dX1_strike_16 : decode cX1_strike 16 = .ok (.iconst 2, 1) := by decide +kernel
theorem dX1_strike_17 : decode cX1_strike 17 = .ok (.aload_n 0, 1) := by decide +kernel
theorem dX1_strike_18 : decode cX1_strike 18 = .ok (.getfield 15, 3) := by decide +kernel
theorem dX1_strike_21 : decode cX1_strike 21 = .ok (.iload 4, 2) := by decide +kernel
theorem dX1_strike_23 : decode cX1_strike 23 = .ok (.iaload, 1) := by decide +kernel
theorem dX1_strike_24 : decode cX1_strike 24 = .ok (.iload_n 1, 1) := by decide +kernel
theorem dX1_strike_25 : decode cX1_strike 25 = .ok (.isub, 1) := by decide +kernel
theorem dX1_strike_26 : decode cX1_strike 26 = .ok (.invokestatic 68, 3) := by decide +kernel
theorem dX1_strike_29 : decode cX1_strike 29 = .ok (.imul, 1) := by decide +kernel
theorem dX1_strike_30 : decode cX1_strike 30 = .ok (.isub, 1) := by decide +kernel
theorem dX1_strike_31 : decode cX1_strike 31 = .ok (.invokestatic 56, 3) := by decide +kernel
theorem dX1_strike_34 : decode cX1_strike 34 = .ok (.istore 5, 2) := by decide +kernel
theorem dX1_strike_36 : decode cX1_strike 36 = .ok (.aload_n 0, 1) := by decide +kernel
theorem dX1_strike_37 : decode cX1_strike 37 = .ok (.getfield 21, 3) := by decide +kernel
theorem dX1_strike_40 : decode cX1_strike 40 = .ok (.iload 4, 2) := by decide +kernel
theorem dX1_strike_42 : decode cX1_strike 42 = .ok (.iaload, 1) := by decide +kernel
theorem dX1_strike_43 : decode cX1_strike 43 = .ok (.ifCond .le 71, 3) := by decide +kernel
theorem dX1_strike_46 : decode cX1_strike 46 = .ok (.iload 5, 2) := by decide +kernel
theorem dX1_strike_48 : decode cX1_strike 48 = .ok (.aload_n 0, 1) := by decide +kernel
theorem dX1_strike_49 : decode cX1_strike 49 = .ok (.iload 4, 2) := by decide +kernel
theorem dX1_strike_51 : decode cX1_strike 51 = .ok (.invokevirtual 72, 3) := by decide +kernel
theorem dX1_strike_54 : decode cX1_strike 54 = .ok (.if_icmp .le 60, 3) := by decide +kernel
theorem dX1_strike_57 : decode cX1_strike 57 = .ok (.iload_n 3, 1) := by decide +kernel
theorem dX1_strike_58 : decode cX1_strike 58 = .ok (.iconst 1, 1) := by decide +kernel
theorem dX1_strike_59 : decode cX1_strike 59 = .ok (.iload 4, 2) := by decide +kernel
theorem dX1_strike_61 : decode cX1_strike 61 = .ok (.ishl, 1) := by decide +kernel
theorem dX1_strike_62 : decode cX1_strike 62 = .ok (.ior, 1) := by decide +kernel
theorem dX1_strike_63 : decode cX1_strike 63 = .ok (.istore_n 3, 1) := by decide +kernel
theorem dX1_strike_64 : decode cX1_strike 64 = .ok (.aload_n 0, 1) := by decide +kernel
theorem dX1_strike_65 : decode cX1_strike 65 = .ok (.getfield 21, 3) := by decide +kernel
theorem dX1_strike_68 : decode cX1_strike 68 = .ok (.iload 4, 2) := by decide +kernel
theorem dX1_strike_70 : decode cX1_strike 70 = .ok (.iaload, 1) := by decide +kernel
theorem dX1_strike_71 : decode cX1_strike 71 = .ok (.bipush 10, 2) := by decide +kernel
theorem dX1_strike_73 : decode cX1_strike 73 = .ok (.if_icmp .lt 33, 3) := by decide +kernel
theorem dX1_strike_76 : decode cX1_strike 76 = .ok (.aload_n 0, 1) := by decide +kernel
theorem dX1_strike_77 : decode cX1_strike 77 = .ok (.getfield 62, 3) := by decide +kernel
theorem dX1_strike_80 : decode cX1_strike 80 = .ok (.bipush 6, 2) := by decide +kernel
theorem dX1_strike_82 : decode cX1_strike 82 = .ok (.if_icmp .ge 24, 3) := by decide +kernel
theorem dX1_strike_85 : decode cX1_strike 85 = .ok (.aload_n 0, 1) := by decide +kernel
theorem dX1_strike_86 : decode cX1_strike 86 = .ok (.getfield 34, 3) := by decide +kernel
theorem dX1_strike_89 : decode cX1_strike 89 = .ok (.aload_n 0, 1) := by decide +kernel
theorem dX1_strike_90 : decode cX1_strike 90 = .ok (.getfield 62, 3) := by decide +kernel
theorem dX1_strike_93 : decode cX1_strike 93 = .ok (.iload 4, 2) := by decide +kernel
theorem dX1_strike_95 : decode cX1_strike 95 = .ok (.iastore, 1) := by decide +kernel
theorem dX1_strike_96 : decode cX1_strike 96 = .ok (.aload_n 0, 1) := by decide +kernel
theorem dX1_strike_97 : decode cX1_strike 97 = .ok (.dup, 1) := by decide +kernel
theorem dX1_strike_98 : decode cX1_strike 98 = .ok (.getfield 62, 3) := by decide +kernel
theorem dX1_strike_101 : decode cX1_strike 101 = .ok (.iconst 1, 1) := by decide +kernel
theorem dX1_strike_102 : decode cX1_strike 102 = .ok (.iadd, 1) := by decide +kernel
theorem dX1_strike_103 : decode cX1_strike 103 = .ok (.putfield 62, 3) := by decide +kernel
theorem dX1_strike_106 : decode cX1_strike 106 = .ok (.aload_n 0, 1) := by decide +kernel
theorem dX1_strike_107 : decode cX1_strike 107 = .ok (.getfield 21, 3) := by decide +kernel
theorem dX1_strike_110 : decode cX1_strike 110 = .ok (.iload 4, 2) := by decide +kernel
theorem dX1_strike_112 : decode cX1_strike 112 = .ok (.iconst 0, 1) := by decide +kernel
theorem dX1_strike_113 : decode cX1_strike 113 = .ok (.iastore, 1) := by decide +kernel
theorem dX1_strike_114 : decode cX1_strike 114 = .ok (.iinc 4 1, 3) := by decide +kernel
theorem dX1_strike_117 : decode cX1_strike 117 = .ok (.goto (-112), 3) := by decide +kernel
theorem dX1_strike_120 : decode cX1_strike 120 = .ok (.iload_n 3, 1) := by decide +kernel
theorem dX1_strike_121 : decode cX1_strike 121 = .ok (.ireturn, 1) := by decide +kernel
set_option maxRecDepth 20000 in
theorem ggX1_joltByDraw_X1_jolt : GoodIn wsX1_joltByDraw wsX1_jolt := goodIn_r _ [9, 10, 11, 12, 13, 14, 15, 16, 8, 17, 18, 19, 20, 21, 22, 23, 24, 25, 26, 27, 28, 29, 30, 31, 32, 33, 34, 35, 36, 37, 38, 39, 40, 41, 42, 43, 44, 45, 46, 47, 48, 49, 50] (by decide +kernel) (by decide +kernel)
set_option maxRecDepth 20000 in
theorem gX1_joltByDraw_X1_jolt : GoodIn wsX1_joltByDraw (wsV RX1 78 RX1 yX1_jolt wsX1_jolt) := goodIn_app (goodIn_of _ (by decide +kernel)) ggX1_joltByDraw_X1_jolt
theorem dX1_joltByDraw_0 : decode cX1_joltByDraw 0 = .ok (.aload_n 0, 1) := by decide +kernel
theorem dX1_joltByDraw_1 : decode cX1_joltByDraw 1 = .ok (.aload_n 0, 1) := by decide +kernel
theorem dX1_joltByDraw_2 : decode cX1_joltByDraw 2 = .ok (.getfield 31, 3) := by decide +kernel
theorem dX1_joltByDraw_5 : decode cX1_joltByDraw 5 = .ok (.ldc 75, 2) := by decide +kernel
theorem dX1_joltByDraw_7 : decode cX1_joltByDraw 7 = .ok (.imul, 1) := by decide +kernel
theorem dX1_joltByDraw_8 : decode cX1_joltByDraw 8 = .ok (.sipush 12345, 3) := by decide +kernel
theorem dX1_joltByDraw_11 : decode cX1_joltByDraw 11 = .ok (.iadd, 1) := by decide +kernel
theorem dX1_joltByDraw_12 : decode cX1_joltByDraw 12 = .ok (.ldc 76, 2) := by decide +kernel
theorem dX1_joltByDraw_14 : decode cX1_joltByDraw 14 = .ok (.iand, 1) := by decide +kernel
theorem dX1_joltByDraw_15 : decode cX1_joltByDraw 15 = .ok (.putfield 31, 3) := by decide +kernel
theorem dX1_joltByDraw_18 : decode cX1_joltByDraw 18 = .ok (.aload_n 0, 1) := by decide +kernel
theorem dX1_joltByDraw_19 : decode cX1_joltByDraw 19 = .ok (.getfield 31, 3) := by decide +kernel
theorem dX1_joltByDraw_22 : decode cX1_joltByDraw 22 = .ok (.ldc 77, 2) := by decide +kernel
theorem dX1_joltByDraw_24 : decode cX1_joltByDraw 24 = .ok (.idiv, 1) := by decide +kernel
theorem dX1_joltByDraw_25 : decode cX1_joltByDraw 25 = .ok (.iconst 5, 1) := by decide +kernel
theorem dX1_joltByDraw_26 : decode cX1_joltByDraw 26 = .ok (.irem, 1) := by decide +kernel
theorem dX1_joltByDraw_27 : decode cX1_joltByDraw 27 = .ok (.ifCond .ne 30, 3) := by decide +kernel
theorem dX1_joltByDraw_30 : decode cX1_joltByDraw 30 = .ok (.aload_n 0, 1) := by decide +kernel
theorem dX1_joltByDraw_31 : decode cX1_joltByDraw 31 = .ok (.aload_n 0, 1) := by decide +kernel
theorem dX1_joltByDraw_32 : decode cX1_joltByDraw 32 = .ok (.getfield 31, 3) := by decide +kernel
theorem dX1_joltByDraw_35 : decode cX1_joltByDraw 35 = .ok (.sipush 128, 3) := by decide +kernel
theorem dX1_joltByDraw_38 : decode cX1_joltByDraw 38 = .ok (.idiv, 1) := by decide +kernel
theorem dX1_joltByDraw_39 : decode cX1_joltByDraw 39 = .ok (.bipush 10, 2) := by decide +kernel
theorem dX1_joltByDraw_41 : decode cX1_joltByDraw 41 = .ok (.irem, 1) := by decide +kernel
theorem dX1_joltByDraw_42 : decode cX1_joltByDraw 42 = .ok (.aload_n 0, 1) := by decide +kernel
theorem dX1_joltByDraw_43 : decode cX1_joltByDraw 43 = .ok (.getfield 31, 3) := by decide +kernel
theorem dX1_joltByDraw_46 : decode cX1_joltByDraw 46 = .ok (.sipush 1024, 3) := by decide +kernel
theorem dX1_joltByDraw_49 : decode cX1_joltByDraw 49 = .ok (.idiv, 1) := by decide +kernel
theorem dX1_joltByDraw_50 : decode cX1_joltByDraw 50 = .ok (.bipush 20, 2) := by decide +kernel
theorem dX1_joltByDraw_52 : decode cX1_joltByDraw 52 = .ok (.irem, 1) := by decide +kernel
theorem dX1_joltByDraw_53 : decode cX1_joltByDraw 53 = .ok (.invokevirtual 78, 3) := by decide +kernel
theorem dX1_joltByDraw_56 : decode cX1_joltByDraw 56 = .ok (.pop, 1) := by decide +kernel
theorem dX1_joltByDraw_57 : decode cX1_joltByDraw 57 = .ok (.return_, 1) := by decide +kernel
theorem dX1_worth_0 : decode cX1_worth 0 = .ok (.iconst 0, 1) := by decide +kernel
theorem dX1_worth_1 : decode cX1_worth 1 = .ok (.istore_n 1, 1) := by decide +kernel
theorem dX1_worth_2 : decode cX1_worth 2 = .ok (.iconst 0, 1) := by decide +kernel
theorem dX1_worth_3 : decode cX1_worth 3 = .ok (.istore_n 2, 1) := by decide +kernel
theorem dX1_worth_4 : decode cX1_worth 4 = .ok (.iload_n 2, 1) := by decide +kernel
theorem dX1_worth_5 : decode cX1_worth 5 = .ok (.aload_n 0, 1) := by decide +kernel
theorem dX1_worth_6 : decode cX1_worth 6 = .ok (.getfield 43, 3) := by decide +kernel
theorem dX1_worth_9 : decode cX1_worth 9 = .ok (.if_icmp .ge 18, 3) := by decide +kernel
theorem dX1_worth_12 : decode cX1_worth 12 = .ok (.iload_n 1, 1) := by decide +kernel
theorem dX1_worth_13 : decode cX1_worth 13 = .ok (.aload_n 0, 1) := by decide +kernel
theorem dX1_worth_14 : decode cX1_worth 14 = .ok (.getfield 21, 3) := by decide +kernel
theorem dX1_worth_17 : decode cX1_worth 17 = .ok (.iload_n 2, 1) := by decide +kernel
theorem dX1_worth_18 : decode cX1_worth 18 = .ok (.iaload, 1) := by decide +kernel
theorem dX1_worth_19 : decode cX1_worth 19 = .ok (.iadd, 1) := by decide +kernel
theorem dX1_worth_20 : decode cX1_worth 20 = .ok (.istore_n 1, 1) := by decide +kernel
theorem dX1_worth_21 : decode cX1_worth 21 = .ok (.iinc 2 1, 3) := by decide +kernel
theorem dX1_worth_24 : decode cX1_worth 24 = .ok (.goto (-20), 3) := by decide +kernel
theorem dX1_worth_27 : decode cX1_worth 27 = .ok (.aload_n 0, 1) := by decide +kernel
theorem dX1_worth_28 : decode cX1_worth 28 = .ok (.getfield 24, 3) := by decide +kernel
theorem dX1_worth_31 : decode cX1_worth 31 = .ok (.iload_n 1, 1) := by decide +kernel
theorem dX1_worth_32 : decode cX1_worth 32 = .ok (.imul, 1) := by decide +kernel
theorem dX1_worth_33 : decode cX1_worth 33 = .ok (.ireturn, 1) := by decide +kernel
theorem dX1_withAsh_0 : decode cX1_withAsh 0 = .ok (.iconst 0, 1) := by decide +kernel
theorem dX1_withAsh_1 : decode cX1_withAsh 1 = .ok (.istore_n 1, 1) := by decide +kernel
theorem dX1_withAsh_2 : decode cX1_withAsh 2 = .ok (.iconst 0, 1) := by decide +kernel
theorem dX1_withAsh_3 : decode cX1_withAsh 3 = .ok (.istore_n 2, 1) := by decide +kernel
theorem dX1_withAsh_4 : decode cX1_withAsh 4 = .ok (.iload_n 2, 1) := by decide +kernel
theorem dX1_withAsh_5 : decode cX1_withAsh 5 = .ok (.aload_n 0, 1) := by decide +kernel
theorem dX1_withAsh_6 : decode cX1_withAsh 6 = .ok (.getfield 43, 3) := by decide +kernel
theorem dX1_withAsh_9 : decode cX1_withAsh 9 = .ok (.if_icmp .ge 24, 3) := by decide +kernel
theorem dX1_withAsh_12 : decode cX1_withAsh 12 = .ok (.aload_n 0, 1) := by decide +kernel
theorem dX1_withAsh_13 : decode cX1_withAsh 13 = .ok (.getfield 21, 3) := by decide +kernel
theorem dX1_withAsh_16 : decode cX1_withAsh 16 = .ok (.iload_n 2, 1) := by decide +kernel
theorem dX1_withAsh_17 : decode cX1_withAsh 17 = .ok (.iaload, 1) := by decide +kernel
theorem dX1_withAsh_18 : decode cX1_withAsh 18 = .ok (.ifCond .le 9, 3) := by decide +kernel
theorem dX1_withAsh_21 : decode cX1_withAsh 21 = .ok (.iload_n 1, 1) := by decide +kernel
theorem dX1_withAsh_22 : decode cX1_withAsh 22 = .ok (.iconst 1, 1) := by decide +kernel
theorem dX1_withAsh_23 : decode cX1_withAsh 23 = .ok (.iload_n 2, 1) := by decide +kernel
theorem dX1_withAsh_24 : decode cX1_withAsh 24 = .ok (.ishl, 1) := by decide +kernel
theorem dX1_withAsh_25 : decode cX1_withAsh 25 = .ok (.ior, 1) := by decide +kernel
theorem dX1_withAsh_26 : decode cX1_withAsh 26 = .ok (.istore_n 1, 1) := by decide +kernel
theorem dX1_withAsh_27 : decode cX1_withAsh 27 = .ok (.iinc 2 1, 3) := by decide +kernel
theorem dX1_withAsh_30 : decode cX1_withAsh 30 = .ok (.goto (-26), 3) := by decide +kernel
theorem dX1_withAsh_33 : decode cX1_withAsh 33 = .ok (.iload_n 1, 1) := by decide +kernel
theorem dX1_withAsh_34 : decode cX1_withAsh 34 = .ok (.ireturn, 1) := by decide +kernel
theorem dX2_init_0 : decode cX2_init 0 = .ok (.aload_n 0, 1) := by decide +kernel
theorem dX2_init_1 : decode cX2_init 1 = .ok (.invokespecial 3, 3) := by decide +kernel
theorem dX2_init_4 : decode cX2_init 4 = .ok (.aload_n 0, 1) := by decide +kernel
theorem dX2_init_5 : decode cX2_init 5 = .ok (.bipush 6, 2) := by decide +kernel
theorem dX2_init_7 : decode cX2_init 7 = .ok (.newarray .int, 2) := by decide +kernel
theorem dX2_init_9 : decode cX2_init 9 = .ok (.putfield 9, 3) := by decide +kernel
theorem dX2_init_12 : decode cX2_init 12 = .ok (.aload_n 0, 1) := by decide +kernel
theorem dX2_init_13 : decode cX2_init 13 = .ok (.bipush 6, 2) := by decide +kernel
theorem dX2_init_15 : decode cX2_init 15 = .ok (.newarray .int, 2) := by decide +kernel
theorem dX2_init_17 : decode cX2_init 17 = .ok (.putfield 15, 3) := by decide +kernel
theorem dX2_init_20 : decode cX2_init 20 = .ok (.return_, 1) := by decide +kernel
theorem dX2_begin_0 : decode cX2_begin 0 = .ok (.aload_n 0, 1) := by decide +kernel
theorem dX2_begin_1 : decode cX2_begin 1 = .ok (.iload_n 1, 1) := by decide +kernel
theorem dX2_begin_2 : decode cX2_begin 2 = .ok (.bipush 6, 2) := by decide +kernel
theorem dX2_begin_4 : decode cX2_begin 4 = .ok (.invokestatic 18, 3) := by decide +kernel
theorem dX2_begin_7 : decode cX2_begin 7 = .ok (.putfield 24, 3) := by decide +kernel
theorem dX2_begin_10 : decode cX2_begin 10 = .ok (.iconst 0, 1) := by decide +kernel
theorem dX2_begin_11 : decode cX2_begin 11 = .ok (.istore_n 2, 1) := by decide +kernel
theorem dX2_begin_12 : decode cX2_begin 12 = .ok (.iload_n 2, 1) := by decide +kernel
theorem dX2_begin_13 : decode cX2_begin 13 = .ok (.aload_n 0, 1) := by decide +kernel
theorem dX2_begin_14 : decode cX2_begin 14 = .ok (.getfield 24, 3) := by decide +kernel
theorem dX2_begin_17 : decode cX2_begin 17 = .ok (.if_icmp .ge 16, 3) := by decide +kernel
theorem dX2_begin_20 : decode cX2_begin 20 = .ok (.aload_n 0, 1) := by decide +kernel
theorem dX2_begin_21 : decode cX2_begin 21 = .ok (.getfield 9, 3) := by decide +kernel
theorem dX2_begin_24 : decode cX2_begin 24 = .ok (.iload_n 2, 1) := by decide +kernel
theorem dX2_begin_25 : decode cX2_begin 25 = .ok (.iload_n 2, 1) := by decide +kernel
theorem dX2_begin_26 : decode cX2_begin 26 = .ok (.iastore, 1) := by decide +kernel
theorem dX2_begin_27 : decode cX2_begin 27 = .ok (.iinc 2 1, 3) := by decide +kernel
theorem dX2_begin_30 : decode cX2_begin 30 = .ok (.goto (-18), 3) := by decide +kernel
theorem dX2_begin_33 : decode cX2_begin 33 = .ok (.return_, 1) := by decide +kernel
theorem dX2_keep_0 : decode cX2_keep 0 = .ok (.aload_n 0, 1) := by decide +kernel
theorem dX2_keep_1 : decode cX2_keep 1 = .ok (.getfield 9, 3) := by decide +kernel
theorem dX2_keep_4 : decode cX2_keep 4 = .ok (.iconst 0, 1) := by decide +kernel
theorem dX2_keep_5 : decode cX2_keep 5 = .ok (.aload_n 0, 1) := by decide +kernel
theorem dX2_keep_6 : decode cX2_keep 6 = .ok (.getfield 15, 3) := by decide +kernel
theorem dX2_keep_9 : decode cX2_keep 9 = .ok (.iconst 0, 1) := by decide +kernel
theorem dX2_keep_10 : decode cX2_keep 10 = .ok (.bipush 6, 2) := by decide +kernel
theorem dX2_keep_12 : decode cX2_keep 12 = .ok (.invokestatic 28, 3) := by decide +kernel
theorem dX2_keep_15 : decode cX2_keep 15 = .ok (.return_, 1) := by decide +kernel
set_option maxRecDepth 20000 in
theorem ggX2_advance_X2_swap : GoodIn wsX2_advance wsX2_swap := goodIn_r _ [7, 2, 8, 9, 10] (by decide +kernel) (by decide +kernel)
set_option maxRecDepth 20000 in
theorem gX2_advance_X2_swap : GoodIn wsX2_advance (wsV RX2 34 RX2 yX2_swap wsX2_swap) := goodIn_app (goodIn_of _ (by decide +kernel)) ggX2_advance_X2_swap
theorem dX2_advance_0 : decode cX2_advance 0 = .ok (.aload_n 0, 1) := by decide +kernel
theorem dX2_advance_1 : decode cX2_advance 1 = .ok (.getfield 24, 3) := by decide +kernel
theorem dX2_advance_4 : decode cX2_advance 4 = .ok (.iconst 2, 1) := by decide +kernel
theorem dX2_advance_5 : decode cX2_advance 5 = .ok (.isub, 1) := by decide +kernel
theorem dX2_advance_6 : decode cX2_advance 6 = .ok (.istore_n 1, 1) := by decide +kernel
theorem dX2_advance_7 : decode cX2_advance 7 = .ok (.iload_n 1, 1) := by decide +kernel
theorem dX2_advance_8 : decode cX2_advance 8 = .ok (.ifCond .lt 26, 3) := by decide +kernel
theorem dX2_advance_11 : decode cX2_advance 11 = .ok (.aload_n 0, 1) := by decide +kernel
theorem dX2_advance_12 : decode cX2_advance 12 = .ok (.getfield 9, 3) := by decide +kernel
theorem dX2_advance_15 : decode cX2_advance 15 = .ok (.iload_n 1, 1) := by decide +kernel
theorem dX2_advance_16 : decode cX2_advance 16 = .ok (.iaload, 1) := by decide +kernel
theorem dX2_advance_17 : decode cX2_advance 17 = .ok (.aload_n 0, 1) := by decide +kernel
theorem dX2_advance_18 : decode cX2_advance 18 = .ok (.getfield 9, 3) := by decide +kernel
theorem dX2_advance_21 : decode cX2_advance 21 = .ok (.iload_n 1, 1) := by decide +kernel
theorem dX2_advance_22 : decode cX2_advance 22 = .ok (.iconst 1, 1) := by decide +kernel
theorem dX2_advance_23 : decode cX2_advance 23 = .ok (.iadd, 1) := by decide +kernel
theorem dX2_advance_24 : decode cX2_advance 24 = .ok (.iaload, 1) := by decide +kernel
theorem dX2_advance_25 : decode cX2_advance 25 = .ok (.if_icmp .le 9, 3) := by decide +kernel
theorem dX2_advance_28 : decode cX2_advance 28 = .ok (.iinc 1 (-1), 3) := by decide +kernel
theorem dX2_advance_31 : decode cX2_advance 31 = .ok (.goto (-24), 3) := by decide +kernel
theorem dX2_advance_34 : decode cX2_advance 34 = .ok (.iload_n 1, 1) := by decide +kernel
theorem dX2_advance_35 : decode cX2_advance 35 = .ok (.ifCond .ge 5, 3) := by decide +kernel
theorem dX2_advance_38 : decode cX2_advance 38 = .ok (.iconst 0, 1) := by decide +kernel
theorem dX2_advance_39 : decode cX2_advance 39 = .ok (.ireturn, 1) := by decide +kernel
theorem dX2_advance_40 : decode cX2_advance 40 = .ok (.aload_n 0, 1) := by decide +kernel
theorem dX2_advance_41 : decode cX2_advance 41 = .ok (.getfield 24, 3) := by decide +kernel
theorem dX2_advance_44 : decode cX2_advance 44 = .ok (.iconst 1, 1) := by decide +kernel
theorem dX2_advance_45 : decode cX2_advance 45 = .ok (.isub, 1) := by decide +kernel
theorem dX2_advance_46 : decode cX2_advance 46 = .ok (.istore_n 2, 1) := by decide +kernel
theorem dX2_advance_47 : decode cX2_advance 47 = .ok (.iload_n 2, 1) := by decide +kernel
theorem dX2_advance_48 : decode cX2_advance 48 = .ok (.iload_n 1, 1) := by decide +kernel
theorem dX2_advance_49 : decode cX2_advance 49 = .ok (.if_icmp .le 24, 3) := by decide +kernel
theorem dX2_advance_52 : decode cX2_advance 52 = .ok (.aload_n 0, 1) := by decide +kernel
theorem dX2_advance_53 : decode cX2_advance 53 = .ok (.getfield 9, 3) := by decide +kernel
theorem dX2_advance_56 : decode cX2_advance 56 = .ok (.iload_n 2, 1) := by decide +kernel
theorem dX2_advance_57 : decode cX2_advance 57 = .ok (.iaload, 1) := by decide +kernel
theorem dX2_advance_58 : decode cX2_advance 58 = .ok (.aload_n 0, 1) := by decide +kernel
theorem dX2_advance_59 : decode cX2_advance 59 = .ok (.getfield 9, 3) := by decide +kernel
theorem dX2_advance_62 : decode cX2_advance 62 = .ok (.iload_n 1, 1) := by decide +kernel
theorem dX2_advance_63 : decode cX2_advance 63 = .ok (.iaload, 1) := by decide +kernel
theorem dX2_advance_64 : decode cX2_advance 64 = .ok (.if_icmp .ge 9, 3) := by decide +kernel
theorem dX2_advance_67 : decode cX2_advance 67 = .ok (.iinc 2 (-1), 3) := by decide +kernel
theorem dX2_advance_70 : decode cX2_advance 70 = .ok (.goto (-23), 3) := by decide +kernel
theorem dX2_advance_73 : decode cX2_advance 73 = .ok (.aload_n 0, 1) := by decide +kernel
theorem dX2_advance_74 : decode cX2_advance 74 = .ok (.iload_n 1, 1) := by decide +kernel
theorem dX2_advance_75 : decode cX2_advance 75 = .ok (.iload_n 2, 1) := by decide +kernel
theorem dX2_advance_76 : decode cX2_advance 76 = .ok (.invokevirtual 34, 3) := by decide +kernel
theorem dX2_advance_79 : decode cX2_advance 79 = .ok (.iload_n 1, 1) := by decide +kernel
theorem dX2_advance_80 : decode cX2_advance 80 = .ok (.iconst 1, 1) := by decide +kernel
theorem dX2_advance_81 : decode cX2_advance 81 = .ok (.iadd, 1) := by decide +kernel
theorem dX2_advance_82 : decode cX2_advance 82 = .ok (.istore_n 3, 1) := by decide +kernel
theorem dX2_advance_83 : decode cX2_advance 83 = .ok (.aload_n 0, 1) := by decide +kernel
theorem dX2_advance_84 : decode cX2_advance 84 = .ok (.getfield 24, 3) := by decide +kernel
theorem dX2_advance_87 : decode cX2_advance 87 = .ok (.iconst 1, 1) := by decide +kernel
theorem dX2_advance_88 : decode cX2_advance 88 = .ok (.isub, 1) := by decide +kernel
theorem dX2_advance_89 : decode cX2_advance 89 = .ok (.istore 4, 2) := by decide +kernel
theorem dX2_advance_91 : decode cX2_advance 91 = .ok (.iload 4, 2) := by decide +kernel
theorem dX2_advance_93 : decode cX2_advance 93 = .ok (.iload_n 3, 1) := by decide +kernel
theorem dX2_advance_94 : decode cX2_advance 94 = .ok (.if_icmp .le 19, 3) := by decide +kernel
theorem dX2_advance_97 : decode cX2_advance 97 = .ok (.aload_n 0, 1) := by decide +kernel
theorem dX2_advance_98 : decode cX2_advance 98 = .ok (.iload_n 3, 1) := by decide +kernel
theorem dX2_advance_99 : decode cX2_advance 99 = .ok (.iload 4, 2) := by decide +kernel
theorem dX2_advance_101 : decode cX2_advance 101 = .ok (.invokevirtual 34, 3) := by decide +kernel
theorem dX2_advance_104 : decode cX2_advance 104 = .ok (.iinc 3 1, 3) := by decide +kernel
theorem dX2_advance_107 : decode cX2_advance 107 = .ok (.iinc 4 (-1), 3) := by decide +kernel
theorem dX2_advance_110 : decode cX2_advance 110 = .ok (.goto (-19), 3) := by decide +kernel
theorem dX2_advance_113 : decode cX2_advance 113 = .ok (.iconst 1, 1) := by decide +kernel
theorem dX2_advance_114 : decode cX2_advance 114 = .ok (.ireturn, 1) := by decide +kernel
theorem dX2_swap_0 : decode cX2_swap 0 = .ok (.aload_n 0, 1) := by decide +kernel
theorem dX2_swap_1 : decode cX2_swap 1 = .ok (.getfield 9, 3) := by decide +kernel
theorem dX2_swap_4 : decode cX2_swap 4 = .ok (.iload_n 1, 1) := by decide +kernel
theorem dX2_swap_5 : decode cX2_swap 5 = .ok (.iaload, 1) := by decide +kernel
theorem dX2_swap_6 : decode cX2_swap 6 = .ok (.istore_n 3, 1) := by decide +kernel
theorem dX2_swap_7 : decode cX2_swap 7 = .ok (.aload_n 0, 1) := by decide +kernel
theorem dX2_swap_8 : decode cX2_swap 8 = .ok (.getfield 9, 3) := by decide +kernel
theorem dX2_swap_11 : decode cX2_swap 11 = .ok (.iload_n 1, 1) := by decide +kernel
theorem dX2_swap_12 : decode cX2_swap 12 = .ok (.aload_n 0, 1) := by decide +kernel
theorem dX2_swap_13 : decode cX2_swap 13 = .ok (.getfield 9, 3) := by decide +kernel
theorem dX2_swap_16 : decode cX2_swap 16 = .ok (.iload_n 2, 1) := by decide +kernel
theorem dX2_swap_17 : decode cX2_swap 17 = .ok (.iaload, 1) := by decide +kernel
theorem dX2_swap_18 : decode cX2_swap 18 = .ok (.iastore, 1) := by decide +kernel
theorem dX2_swap_19 : decode cX2_swap 19 = .ok (.aload_n 0, 1) := by decide +kernel
theorem dX2_swap_20 : decode cX2_swap 20 = .ok (.getfield 9, 3) := by decide +kernel
theorem dX2_swap_23 : decode cX2_swap 23 = .ok (.iload_n 2, 1) := by decide +kernel
theorem dX2_swap_24 : decode cX2_swap 24 = .ok (.iload_n 3, 1) := by decide +kernel
theorem dX2_swap_25 : decode cX2_swap 25 = .ok (.iastore, 1) := by decide +kernel
theorem dX2_swap_26 : decode cX2_swap 26 = .ok (.return_, 1) := by decide +kernel
theorem dX3_init_0 : decode cX3_init 0 = .ok (.aload_n 0, 1) := by decide +kernel
theorem dX3_init_1 : decode cX3_init 1 = .ok (.invokespecial 3, 3) := by decide +kernel
theorem dX3_init_4 : decode cX3_init 4 = .ok (.aload_n 0, 1) := by decide +kernel
theorem dX3_init_5 : decode cX3_init 5 = .ok (.bipush 24, 2) := by decide +kernel
theorem dX3_init_7 : decode cX3_init 7 = .ok (.newarray .long, 2) := by decide +kernel
theorem dX3_init_9 : decode cX3_init 9 = .ok (.putfield 9, 3) := by decide +kernel
theorem dX3_init_12 : decode cX3_init 12 = .ok (.return_, 1) := by decide +kernel
theorem dX3_renew_0 : decode cX3_renew 0 = .ok (.aload_n 0, 1) := by decide +kernel
theorem dX3_renew_1 : decode cX3_renew 1 = .ok (.iconst 1, 1) := by decide +kernel
theorem dX3_renew_2 : decode cX3_renew 2 = .ok (.putfield 15, 3) := by decide +kernel
theorem dX3_renew_5 : decode cX3_renew 5 = .ok (.aload_n 0, 1) := by decide +kernel
theorem dX3_renew_6 : decode cX3_renew 6 = .ok (.iload_n 1, 1) := by decide +kernel
theorem dX3_renew_7 : decode cX3_renew 7 = .ok (.putfield 19, 3) := by decide +kernel
theorem dX3_renew_10 : decode cX3_renew 10 = .ok (.aload_n 0, 1) := by decide +kernel
theorem dX3_renew_11 : decode cX3_renew 11 = .ok (.iload_n 2, 1) := by decide +kernel
theorem dX3_renew_12 : decode cX3_renew 12 = .ok (.bipush 24, 2) := by decide +kernel
theorem dX3_renew_14 : decode cX3_renew 14 = .ok (.invokestatic 23, 3) := by decide +kernel
theorem dX3_renew_17 : decode cX3_renew 17 = .ok (.putfield 29, 3) := by decide +kernel
theorem dX3_renew_20 : decode cX3_renew 20 = .ok (.iconst 0, 1) := by decide +kernel
theorem dX3_renew_21 : decode cX3_renew 21 = .ok (.istore_n 3, 1) := by decide +kernel
theorem dX3_renew_22 : decode cX3_renew 22 = .ok (.iload_n 3, 1) := by decide +kernel
theorem dX3_renew_23 : decode cX3_renew 23 = .ok (.bipush 24, 2) := by decide +kernel
theorem dX3_renew_25 : decode cX3_renew 25 = .ok (.if_icmp .ge 16, 3) := by decide +kernel
theorem dX3_renew_28 : decode cX3_renew 28 = .ok (.aload_n 0, 1) := by decide +kernel
theorem dX3_renew_29 : decode cX3_renew 29 = .ok (.getfield 9, 3) := by decide +kernel
theorem dX3_renew_32 : decode cX3_renew 32 = .ok (.iload_n 3, 1) := by decide +kernel
theorem dX3_renew_33 : decode cX3_renew 33 = .ok (.lconst 0, 1) := by decide +kernel
theorem dX3_renew_34 : decode cX3_renew 34 = .ok (.lastore, 1) := by decide +kernel
theorem dX3_renew_35 : decode cX3_renew 35 = .ok (.iinc 3 1, 3) := by decide +kernel
theorem dX3_renew_38 : decode cX3_renew 38 = .ok (.goto (-16), 3) := by decide +kernel
theorem dX3_renew_41 : decode cX3_renew 41 = .ok (.return_, 1) := by decide +kernel
set_option maxRecDepth 20000 in
theorem ggX3_refusal_X3_isOutside : GoodIn wsX3_refusal wsX3_isOutside := goodIn_r _ [7, 8, 9, 10, 11, 12] (by decide +kernel) (by decide +kernel)
set_option maxRecDepth 20000 in
theorem gX3_refusal_X3_isOutside : GoodIn wsX3_refusal (wsV RX3 32 RX3 yX3_isOutside wsX3_isOutside) := goodIn_app (goodIn_of _ (by decide +kernel)) ggX3_refusal_X3_isOutside
theorem dX3_refusal_0 : decode cX3_refusal 0 = .ok (.aload_n 0, 1) := by decide +kernel
theorem dX3_refusal_1 : decode cX3_refusal 1 = .ok (.getfield 15, 3) := by decide +kernel
theorem dX3_refusal_4 : decode cX3_refusal 4 = .ok (.ifCond .ne 6, 3) := by decide +kernel
theorem dX3_refusal_7 : decode cX3_refusal 7 = .ok (.bipush (-11), 2) := by decide +kernel
theorem dX3_refusal_9 : decode cX3_refusal 9 = .ok (.ireturn, 1) := by decide +kernel
theorem dX3_refusal_10 : decode cX3_refusal 10 = .ok (.iload_n 1, 1) := by decide +kernel
theorem dX3_refusal_11 : decode cX3_refusal 11 = .ok (.aload_n 0, 1) := by decide +kernel
theorem dX3_refusal_12 : decode cX3_refusal 12 = .ok (.getfield 19, 3) := by decide +kernel
theorem dX3_refusal_15 : decode cX3_refusal 15 = .ok (.if_icmp .eq 6, 3) := by decide +kernel
theorem dX3_refusal_18 : decode cX3_refusal 18 = .ok (.bipush (-12), 2) := by decide +kernel
theorem dX3_refusal_20 : decode cX3_refusal 20 = .ok (.ireturn, 1) := by decide +kernel
theorem dX3_refusal_21 : decode cX3_refusal 21 = .ok (.aload_n 0, 1) := by decide +kernel
theorem dX3_refusal_22 : decode cX3_refusal 22 = .ok (.iload_n 2, 1) := by decide +kernel
theorem dX3_refusal_23 : decode cX3_refusal 23 = .ok (.iload_n 3, 1) := by decide +kernel
theorem dX3_refusal_24 : decode cX3_refusal 24 = .ok (.invokevirtual 32, 3) := by decide +kernel
theorem dX3_refusal_27 : decode cX3_refusal 27 = .ok (.ifCond .eq 8, 3) := by decide +kernel
theorem dX3_refusal_30 : decode cX3_refusal 30 = .ok (.bipush (-13), 2) := by decide +kernel
theorem dX3_refusal_32 : decode cX3_refusal 32 = .ok (.goto 4, 3) := by decide +kernel
theorem dX3_refusal_35 : decode cX3_refusal 35 = .ok (.iconst 0, 1) := by decide +kernel
theorem dX3_refusal_36 : decode cX3_refusal 36 = .ok (.ireturn, 1) := by decide +kernel
theorem dX3_isOutside_0 : decode cX3_isOutside 0 = .ok (.iload_n 1, 1) := by decide +kernel
theorem dX3_isOutside_1 : decode cX3_isOutside 1 = .ok (.ifCond .lt 17, 3) := by decide +kernel
theorem dX3_isOutside_4 : decode cX3_isOutside 4 = .ok (.iload_n 2, 1) := by decide +kernel
theorem dX3_isOutside_5 : decode cX3_isOutside 5 = .ok (.ifCond .lt 13, 3) := by decide +kernel
theorem dX3_isOutside_8 : decode cX3_isOutside 8 = .ok (.iload_n 1, 1) := by decide +kernel
theorem dX3_isOutside_9 : decode cX3_isOutside 9 = .ok (.aload_n 0, 1) := by decide +kernel
theorem dX3_isOutside_10 : decode cX3_isOutside 10 = .ok (.getfield 29, 3) := by decide +kernel
theorem dX3_isOutside_13 : decode cX3_isOutside 13 = .ok (.iload_n 2, 1) := by decide +kernel
theorem dX3_isOutside_14 : decode cX3_isOutside 14 = .ok (.isub, 1) := by decide +kernel
theorem dX3_isOutside_15 : decode cX3_isOutside 15 = .ok (.if_icmp .le 7, 3) := by decide +kernel
theorem dX3_isOutside_18 : decode cX3_isOutside 18 = .ok (.iconst 1, 1) := by decide +kernel
theorem dX3_isOutside_19 : decode cX3_isOutside 19 = .ok (.goto 4, 3) := by decide +kernel
theorem dX3_isOutside_22 : decode cX3_isOutside 22 = .ok (.iconst 0, 1) := by decide +kernel
theorem dX3_isOutside_23 : decode cX3_isOutside 23 = .ok (.ireturn, 1) := by decide +kernel
set_option maxRecDepth 20000 in
theorem ggX3_put_X3_isOutside : GoodIn wsX3_put wsX3_isOutside := goodIn_r _ [6, 7, 13, 14, 15, 16] (by decide +kernel) (by decide +kernel)
set_option maxRecDepth 20000 in
theorem gX3_put_X3_isOutside : GoodIn wsX3_put (wsV RX3 32 RX3 yX3_isOutside wsX3_isOutside) := goodIn_app (goodIn_of _ (by decide +kernel)) ggX3_put_X3_isOutside
set_option maxRecDepth 20000 in
theorem ggX3_put_X3_cut : GoodIn wsX3_put wsX3_cut := goodIn_r _ [11, 12, 13, 14, 15, 16] (by decide +kernel) (by decide +kernel)
set_option maxRecDepth 20000 in
theorem gX3_put_X3_cut : GoodIn wsX3_put (wsV RX3 36 RX3 yX3_cut wsX3_cut) := goodIn_app (goodIn_of _ (by decide +kernel)) ggX3_put_X3_cut
theorem dX3_put_0 : decode cX3_put 0 = .ok (.aload_n 0, 1) := by decide +kernel
theorem dX3_put_1 : decode cX3_put 1 = .ok (.iload_n 1, 1) := by decide +kernel
theorem dX3_put_2 : decode cX3_put 2 = .ok (.iconst 1, 1) := by decide +kernel
theorem dX3_put_3 : decode cX3_put 3 = .ok (.invokevirtual 32, 3) := by decide +kernel
theorem dX3_put_6 : decode cX3_put 6 = .ok (.ifCond .ne 14, 3) := by decide +kernel
theorem dX3_put_9 : decode cX3_put 9 = .ok (.aload_n 0, 1) := by decide +kernel
theorem dX3_put_10 : decode cX3_put 10 = .ok (.getfield 9, 3) := by decide +kernel
theorem dX3_put_13 : decode cX3_put 13 = .ok (.iload_n 1, 1) := by decide +kernel
theorem dX3_put_14 : decode cX3_put 14 = .ok (.aload_n 0, 1) := by decide +kernel
theorem dX3_put_15 : decode cX3_put 15 = .ok (.lload_n 2, 1) := by decide +kernel
theorem dX3_put_16 : decode cX3_put 16 = .ok (.invokevirtual 36, 3) := by decide +kernel
theorem dX3_put_19 : decode cX3_put 19 = .ok (.lastore, 1) := by decide +kernel
theorem dX3_put_20 : decode cX3_put 20 = .ok (.return_, 1) := by decide +kernel
theorem dX3_cut_0 : decode cX3_cut 0 = .ok (.aload_n 0, 1) := by decide +kernel
theorem dX3_cut_1 : decode cX3_cut 1 = .ok (.getfield 19, 3) := by decide +kernel
theorem dX3_cut_4 : decode cX3_cut 4 = .ok (.tableswitch 42 0 2 #[28, 33, 38], 28) := by decide +kernel
theorem dX3_cut_32 : decode cX3_cut 32 = .ok (.lload_n 1, 1) := by decide +kernel
theorem dX3_cut_33 : decode cX3_cut 33 = .ok (.l2i, 1) := by decide +kernel
theorem dX3_cut_34 : decode cX3_cut 34 = .ok (.i2b, 1) := by decide +kernel
theorem dX3_cut_35 : decode cX3_cut 35 = .ok (.i2l, 1) := by decide +kernel
theorem dX3_cut_36 : decode cX3_cut 36 = .ok (.lreturn, 1) := by decide +kernel
theorem dX3_cut_37 : decode cX3_cut 37 = .ok (.lload_n 1, 1) := by decide +kernel
theorem dX3_cut_38 : decode cX3_cut 38 = .ok (.l2i, 1) := by decide +kernel
theorem dX3_cut_39 : decode cX3_cut 39 = .ok (.i2s, 1) := by decide +kernel
theorem dX3_cut_40 : decode cX3_cut 40 = .ok (.i2l, 1) := by decide +kernel
theorem dX3_cut_41 : decode cX3_cut 41 = .ok (.lreturn, 1) := by decide +kernel
theorem dX3_cut_42 : decode cX3_cut 42 = .ok (.lload_n 1, 1) := by decide +kernel
theorem dX3_cut_43 : decode cX3_cut 43 = .ok (.l2i, 1) := by decide +kernel
theorem dX3_cut_44 : decode cX3_cut 44 = .ok (.i2l, 1) := by decide +kernel
theorem dX3_cut_45 : decode cX3_cut 45 = .ok (.lreturn, 1) := by decide +kernel
theorem dX3_cut_46 : decode cX3_cut 46 = .ok (.lload_n 1, 1) := by decide +kernel
theorem dX3_cut_47 : decode cX3_cut 47 = .ok (.lreturn, 1) := by decide +kernel
theorem dX4_init_0 : decode cX4_init 0 = .ok (.aload_n 0, 1) := by decide +kernel
theorem dX4_init_1 : decode cX4_init 1 = .ok (.invokespecial 3, 3) := by decide +kernel
theorem dX4_init_4 : decode cX4_init 4 = .ok (.aload_n 0, 1) := by decide +kernel
theorem dX4_init_5 : decode cX4_init 5 = .ok (.bipush 70, 2) := by decide +kernel
theorem dX4_init_7 : decode cX4_init 7 = .ok (.newarray .int, 2) := by decide +kernel
theorem dX4_init_9 : decode cX4_init 9 = .ok (.putfield 9, 3) := by decide +kernel
theorem dX4_init_12 : decode cX4_init 12 = .ok (.return_, 1) := by decide +kernel
theorem dX4_put_0 : decode cX4_put 0 = .ok (.aload_n 0, 1) := by decide +kernel
theorem dX4_put_1 : decode cX4_put 1 = .ok (.getfield 15, 3) := by decide +kernel
theorem dX4_put_4 : decode cX4_put 4 = .ok (.bipush 70, 2) := by decide +kernel
theorem dX4_put_6 : decode cX4_put 6 = .ok (.if_icmp .lt 6, 3) := by decide +kernel
theorem dX4_put_9 : decode cX4_put 9 = .ok (.bipush (-3), 2) := by decide +kernel
theorem dX4_put_11 : decode cX4_put 11 = .ok (.ireturn, 1) := by decide +kernel
theorem dX4_put_12 : decode cX4_put 12 = .ok (.aload_n 0, 1) := by decide +kernel
theorem dX4_put_13 : decode cX4_put 13 = .ok (.getfield 9, 3) := by decide +kernel
theorem dX4_put_16 : decode cX4_put 16 = .ok (.aload_n 0, 1) := by decide +kernel
theorem dX4_put_17 : decode cX4_put 17 = .ok (.getfield 15, 3) := by decide +kernel
theorem dX4_put_20 : decode cX4_put 20 = .ok (.iload_n 1, 1) := by decide +kernel
theorem dX4_put_21 : decode cX4_put 21 = .ok (.iastore, 1) := by decide +kernel
theorem dX4_put_22 : decode cX4_put 22 = .ok (.aload_n 0, 1) := by decide +kernel
theorem dX4_put_23 : decode cX4_put 23 = .ok (.dup, 1) := by decide +kernel
theorem dX4_put_24 : decode cX4_put 24 = .ok (.getfield 15, 3) := by decide +kernel
theorem dX4_put_27 : decode cX4_put 27 = .ok (.iconst 1, 1) := by decide +kernel
theorem dX4_put_28 : decode cX4_put 28 = .ok (.iadd, 1) := by decide +kernel
theorem dX4_put_29 : decode cX4_put 29 = .ok (.putfield 15, 3) := by decide +kernel
theorem dX4_put_32 : decode cX4_put 32 = .ok (.aload_n 0, 1) := by decide +kernel
theorem dX4_put_33 : decode cX4_put 33 = .ok (.getfield 15, 3) := by decide +kernel
theorem dX4_put_36 : decode cX4_put 36 = .ok (.ireturn, 1) := by decide +kernel
theorem dX4_clear_0 : decode cX4_clear 0 = .ok (.aload_n 0, 1) := by decide +kernel
theorem dX4_clear_1 : decode cX4_clear 1 = .ok (.iconst 0, 1) := by decide +kernel
theorem dX4_clear_2 : decode cX4_clear 2 = .ok (.putfield 15, 3) := by decide +kernel
theorem dX4_clear_5 : decode cX4_clear 5 = .ok (.return_, 1) := by decide +kernel
set_option maxRecDepth 20000 in
theorem ggX4_read_X1_empty : GoodIn wsX4_read wsX1_empty := goodIn_r _ [10, 11, 12, 13, 66, 67, 68, 69, 70, 71, 72, 73, 74, 75, 76, 77] (by decide +kernel) (by decide +kernel)
set_option maxRecDepth 20000 in
theorem gX4_read_X1_empty : GoodIn wsX4_read (wsV RX4 26 RX1 yX1_empty wsX1_empty) := goodIn_app (goodIn_of _ (by decide +kernel)) ggX4_read_X1_empty
set_option maxRecDepth 20000 in
theorem ggX4_read_X4_digit : GoodIn wsX4_read wsX4_digit := goodIn_r _ [18, 2, 1, 19, 20, 21, 17, 22, 23, 24, 25, 26, 27, 28, 62, 63, 64, 65] (by decide +kernel) (by decide +kernel)
set_option maxRecDepth 20000 in
theorem gX4_read_X4_digit : GoodIn wsX4_read (wsV RX4 31 RX4 yX4_digit wsX4_digit) := goodIn_app (goodIn_of _ (by decide +kernel)) ggX4_read_X4_digit
set_option maxRecDepth 20000 in
theorem ggX4_read_X4_want : GoodIn wsX4_read wsX4_want := goodIn_r _ [32, 2, 1, 19, 20, 21, 17, 22, 23, 24, 25, 26, 27, 28, 62, 63, 64, 65] (by decide +kernel) (by decide +kernel)
set_option maxRecDepth 20000 in
theorem gX4_read_X4_want : GoodIn wsX4_read (wsV RX4 41 RX4 yX4_want wsX4_want) := goodIn_app (goodIn_of _ (by decide +kernel)) ggX4_read_X4_want
set_option maxRecDepth 20000 in
theorem ggX4_read_X4_readClerk : GoodIn wsX4_read wsX4_readClerk := goodIn_r _ [36, 2, 5, 37, 38, 39, 40, 41, 17, 42, 1, 19, 20, 21, 22, 23, 24, 25, 26, 27, 28, 43, 44, 45, 14, 15, 16, 18, 46, 47, 48, 49, 50, 51, 52, 53, 54, 55, 56, 9, 57, 11, 58, 59, 60, 61, 12, 62, 63, 64, 65, 66, 67, 68, 69, 70, 71, 72, 73, 74, 75, 76, 77] (by decide +kernel) (by decide +kernel)
set_option maxRecDepth 20000 in
theorem gX4_read_X4_readClerk : GoodIn wsX4_read (wsV RX4 45 RX4 yX4_readClerk wsX4_readClerk) := goodIn_app (goodIn_of _ (by decide +kernel)) ggX4_read_X4_readClerk
set_option maxRecDepth 20000 in
theorem ggX4_read_X4_found : GoodIn wsX4_read wsX4_found := goodIn_r _ [49, 2, 1, 19, 20, 21, 17, 22, 23, 24, 25, 26, 27, 28, 62, 63, 64, 65] (by decide +kernel) (by decide +kernel)
set_option maxRecDepth 20000 in
theorem gX4_read_X4_found : GoodIn wsX4_read (wsV RX4 49 RX4 yX4_found wsX4_found) := goodIn_app (goodIn_of _ (by decide +kernel)) ggX4_read_X4_found
theorem dX4_read_0 : decode cX4_read 0 = .ok (.aload_n 0, 1) := by decide +kernel
theorem dX4_read_1 : decode cX4_read 1 = .ok (.iconst 0, 1) := by decide +kernel
theorem dX4_read_2 : decode cX4_read 2 = .ok (.putfield 19, 3) := by decide +kernel
theorem dX4_read_5 : decode cX4_read 5 = .ok (.aload_n 0, 1) := by decide +kernel
theorem dX4_read_6 : decode cX4_read 6 = .ok (.iconst 0, 1) := by decide +kernel
theorem dX4_read_7 : decode cX4_read 7 = .ok (.putfield 22, 3) := by decide +kernel
theorem dX4_read_10 : decode cX4_read 10 = .ok (.aload_n 1, 1) := by decide +kernel
theorem dX4_read_11 : decode cX4_read 11 = .ok (.invokevirtual 26, 3) := by decide +kernel
theorem dX4_read_14 : decode cX4_read 14 = .ok (.aload_n 1, 1) := by decide +kernel
theorem dX4_read_15 : decode cX4_read 15 = .ok (.aload_n 0, 1) := by decide +kernel
theorem dX4_read_16 : decode cX4_read 16 = .ok (.iconst 1, 1) := by decide +kernel
theorem dX4_read_17 : decode cX4_read 17 = .ok (.invokevirtual 31, 3) := by decide +kernel
theorem dX4_read_20 : decode cX4_read 20 = .ok (.putfield 35, 3) := by decide +kernel
theorem dX4_read_23 : decode cX4_read 23 = .ok (.aload_n 1, 1) := by decide +kernel
theorem dX4_read_24 : decode cX4_read 24 = .ok (.aload_n 0, 1) := by decide +kernel
theorem dX4_read_25 : decode cX4_read 25 = .ok (.iconst 0, 1) := by decide +kernel
theorem dX4_read_26 : decode cX4_read 26 = .ok (.invokevirtual 31, 3) := by decide +kernel
theorem dX4_read_29 : decode cX4_read 29 = .ok (.putfield 38, 3) := by decide +kernel
theorem dX4_read_32 : decode cX4_read 32 = .ok (.aload_n 0, 1) := by decide +kernel
theorem dX4_read_33 : decode cX4_read 33 = .ok (.bipush 59, 2) := by decide +kernel
theorem dX4_read_35 : decode cX4_read 35 = .ok (.invokevirtual 41, 3) := by decide +kernel
theorem dX4_read_38 : decode cX4_read 38 = .ok (.aload_n 0, 1) := by decide +kernel
theorem dX4_read_39 : decode cX4_read 39 = .ok (.aload_n 1, 1) := by decide +kernel
theorem dX4_read_40 : decode cX4_read 40 = .ok (.invokevirtual 45, 3) := by decide +kernel
theorem dX4_read_43 : decode cX4_read 43 = .ok (.iconst 1, 1) := by decide +kernel
theorem dX4_read_44 : decode cX4_read 44 = .ok (.istore_n 2, 1) := by decide +kernel
theorem dX4_read_45 : decode cX4_read 45 = .ok (.iload_n 2, 1) := by decide +kernel
theorem dX4_read_46 : decode cX4_read 46 = .ok (.bipush 6, 2) := by decide +kernel
theorem dX4_read_48 : decode cX4_read 48 = .ok (.if_icmp .ge 23, 3) := by decide +kernel
theorem dX4_read_51 : decode cX4_read 51 = .ok (.aload_n 0, 1) := by decide +kernel
theorem dX4_read_52 : decode cX4_read 52 = .ok (.bipush 44, 2) := by decide +kernel
theorem dX4_read_54 : decode cX4_read 54 = .ok (.invokevirtual 49, 3) := by decide +kernel
theorem dX4_read_57 : decode cX4_read 57 = .ok (.ifCond .eq 14, 3) := by decide +kernel
theorem dX4_read_60 : decode cX4_read 60 = .ok (.aload_n 0, 1) := by decide +kernel
theorem dX4_read_61 : decode cX4_read 61 = .ok (.aload_n 1, 1) := by decide +kernel
theorem dX4_read_62 : decode cX4_read 62 = .ok (.invokevirtual 45, 3) := by decide +kernel
theorem dX4_read_65 : decode cX4_read 65 = .ok (.iinc 2 1, 3) := by decide +kernel
theorem dX4_read_68 : decode cX4_read 68 = .ok (.goto (-23), 3) := by decide +kernel
theorem dX4_read_71 : decode cX4_read 71 = .ok (.aload_n 0, 1) := by decide +kernel
theorem dX4_read_72 : decode cX4_read 72 = .ok (.iconst (-1), 1) := by decide +kernel
theorem dX4_read_73 : decode cX4_read 73 = .ok (.invokevirtual 41, 3) := by decide +kernel
theorem dX4_read_76 : decode cX4_read 76 = .ok (.aload_n 0, 1) := by decide +kernel
theorem dX4_read_77 : decode cX4_read 77 = .ok (.getfield 22, 3) := by decide +kernel
theorem dX4_read_80 : decode cX4_read 80 = .ok (.ifCond .eq 13, 3) := by decide +kernel
theorem dX4_read_83 : decode cX4_read 83 = .ok (.bipush (-20), 2) := by decide +kernel
theorem dX4_read_85 : decode cX4_read 85 = .ok (.aload_n 0, 1) := by decide +kernel
theorem dX4_read_86 : decode cX4_read 86 = .ok (.getfield 19, 3) := by decide +kernel
theorem dX4_read_89 : decode cX4_read 89 = .ok (.isub, 1) := by decide +kernel
theorem dX4_read_90 : decode cX4_read 90 = .ok (.goto 7, 3) := by decide +kernel
theorem dX4_read_93 : decode cX4_read 93 = .ok (.aload_n 1, 1) := by decide +kernel
theorem dX4_read_94 : decode cX4_read 94 = .ok (.getfield 53, 3) := by decide +kernel
theorem dX4_read_97 : decode cX4_read 97 = .ok (.ireturn, 1) := by decide +kernel
set_option maxRecDepth 20000 in
theorem ggX4_readClerk_X4_kindLetter : GoodIn wsX4_readClerk wsX4_kindLetter := goodIn_r _ [9, 1, 10, 11, 12, 13, 8, 14, 15, 16, 17, 18, 19, 20, 21, 22, 23, 47, 48, 49, 50] (by decide +kernel) (by decide +kernel)
set_option maxRecDepth 20000 in
theorem gX4_readClerk_X4_kindLetter : GoodIn wsX4_readClerk (wsV RX4 56 RX4 yX4_kindLetter wsX4_kindLetter) := goodIn_app (goodIn_of _ (by decide +kernel)) ggX4_readClerk_X4_kindLetter
set_option maxRecDepth 20000 in
theorem ggX4_readClerk_X4_digit : GoodIn wsX4_readClerk wsX4_digit := goodIn_r _ [27, 1, 10, 11, 12, 13, 8, 14, 15, 16, 17, 18, 19, 20, 47, 48, 49, 50] (by decide +kernel) (by decide +kernel)
set_option maxRecDepth 20000 in
theorem gX4_readClerk_X4_digit : GoodIn wsX4_readClerk (wsV RX4 31 RX4 yX4_digit wsX4_digit) := goodIn_app (goodIn_of _ (by decide +kernel)) ggX4_readClerk_X4_digit
set_option maxRecDepth 20000 in
theorem ggX4_readClerk_X4_found : GoodIn wsX4_readClerk wsX4_found := goodIn_r _ [31, 1, 10, 11, 12, 13, 8, 14, 15, 16, 17, 18, 19, 20, 47, 48, 49, 50] (by decide +kernel) (by decide +kernel)
set_option maxRecDepth 20000 in
theorem gX4_readClerk_X4_found : GoodIn wsX4_readClerk (wsV RX4 49 RX4 yX4_found wsX4_found) := goodIn_app (goodIn_of _ (by decide +kernel)) ggX4_readClerk_X4_found
set_option maxRecDepth 20000 in
theorem ggX4_readClerk_X4_number : GoodIn wsX4_readClerk wsX4_number := goodIn_r _ [35, 1, 10, 24, 25, 26, 8, 27, 11, 12, 13, 14, 15, 16, 17, 18, 19, 20, 47, 48, 49, 50] (by decide +kernel) (by decide +kernel)
set_option maxRecDepth 20000 in
theorem gX4_readClerk_X4_number : GoodIn wsX4_readClerk (wsV RX4 60 RX4 yX4_number wsX4_number) := goodIn_app (goodIn_of _ (by decide +kernel)) ggX4_readClerk_X4_number
set_option maxRecDepth 20000 in
theorem ggX4_readClerk_X1_seatNew : GoodIn wsX4_readClerk wsX1_seatNew := goodIn_r _ [40, 41, 42, 43, 44, 45, 46, 51, 52, 53, 54, 55, 56, 57, 58, 59, 60, 61, 62] (by decide +kernel) (by decide +kernel)
set_option maxRecDepth 20000 in
theorem gX4_readClerk_X1_seatNew : GoodIn wsX4_readClerk (wsV RX4 63 RX1 yX1_seatNew wsX1_seatNew) := goodIn_app (goodIn_of _ (by decide +kernel)) ggX4_readClerk_X1_seatNew
theorem dX4_readClerk_0 : decode cX4_readClerk 0 = .ok (.aload_n 0, 1) := by decide +kernel
theorem dX4_readClerk_1 : decode cX4_readClerk 1 = .ok (.invokevirtual 56, 3) := by decide +kernel
theorem dX4_readClerk_4 : decode cX4_readClerk 4 = .ok (.istore_n 2, 1) := by decide +kernel
theorem dX4_readClerk_5 : decode cX4_readClerk 5 = .ok (.aload_n 0, 1) := by decide +kernel
theorem dX4_readClerk_6 : decode cX4_readClerk 6 = .ok (.iconst 0, 1) := by decide +kernel
theorem dX4_readClerk_7 : decode cX4_readClerk 7 = .ok (.invokevirtual 31, 3) := by decide +kernel
theorem dX4_readClerk_10 : decode cX4_readClerk 10 = .ok (.istore_n 3, 1) := by decide +kernel
theorem dX4_readClerk_11 : decode cX4_readClerk 11 = .ok (.aload_n 0, 1) := by decide +kernel
theorem dX4_readClerk_12 : decode cX4_readClerk 12 = .ok (.iconst 1, 1) := by decide +kernel
theorem dX4_readClerk_13 : decode cX4_readClerk 13 = .ok (.invokevirtual 31, 3) := by decide +kernel
theorem dX4_readClerk_16 : decode cX4_readClerk 16 = .ok (.istore 4, 2) := by decide +kernel
theorem dX4_readClerk_18 : decode cX4_readClerk 18 = .ok (.aload_n 0, 1) := by decide +kernel
theorem dX4_readClerk_19 : decode cX4_readClerk 19 = .ok (.bipush 47, 2) := by decide +kernel
theorem dX4_readClerk_21 : decode cX4_readClerk 21 = .ok (.invokevirtual 49, 3) := by decide +kernel
theorem dX4_readClerk_24 : decode cX4_readClerk 24 = .ok (.ifCond .eq 10, 3) := by decide +kernel
theorem dX4_readClerk_27 : decode cX4_readClerk 27 = .ok (.aload_n 0, 1) := by decide +kernel
theorem dX4_readClerk_28 : decode cX4_readClerk 28 = .ok (.invokevirtual 60, 3) := by decide +kernel
theorem dX4_readClerk_31 : decode cX4_readClerk 31 = .ok (.goto 4, 3) := by decide +kernel
theorem dX4_readClerk_34 : decode cX4_readClerk 34 = .ok (.iconst 0, 1) := by decide +kernel
theorem dX4_readClerk_35 : decode cX4_readClerk 35 = .ok (.istore 5, 2) := by decide +kernel
theorem dX4_readClerk_37 : decode cX4_readClerk 37 = .ok (.aload_n 0, 1) := by decide +kernel
theorem dX4_readClerk_38 : decode cX4_readClerk 38 = .ok (.bipush 120, 2) := by decide +kernel
theorem dX4_readClerk_40 : decode cX4_readClerk 40 = .ok (.invokevirtual 49, 3) := by decide +kernel
theorem dX4_readClerk_43 : decode cX4_readClerk 43 = .ok (.istore 6, 2) := by decide +kernel
theorem dX4_readClerk_45 : decode cX4_readClerk 45 = .ok (.aload_n 0, 1) := by decide +kernel
theorem dX4_readClerk_46 : decode cX4_readClerk 46 = .ok (.getfield 22, 3) := by decide +kernel
theorem dX4_readClerk_49 : decode cX4_readClerk 49 = .ok (.ifCond .ne 55, 3) := by decide +kernel
theorem dX4_readClerk_52 : decode cX4_readClerk 52 = .ok (.aload_n 1, 1) := by decide +kernel
theorem dX4_readClerk_53 : decode cX4_readClerk 53 = .ok (.getfield 53, 3) := by decide +kernel
theorem dX4_readClerk_56 : decode cX4_readClerk 56 = .ok (.bipush 6, 2) := by decide +kernel
theorem dX4_readClerk_58 : decode cX4_readClerk 58 = .ok (.if_icmp .ge 46, 3) := by decide +kernel
theorem dX4_readClerk_61 : decode cX4_readClerk 61 = .ok (.aload_n 1, 1) := by decide +kernel
theorem dX4_readClerk_62 : decode cX4_readClerk 62 = .ok (.getfield 53, 3) := by decide +kernel
theorem dX4_readClerk_65 : decode cX4_readClerk 65 = .ok (.istore 7, 2) := by decide +kernel
theorem dX4_readClerk_67 : decode cX4_readClerk 67 = .ok (.aload_n 1, 1) := by decide +kernel
theorem dX4_readClerk_68 : decode cX4_readClerk 68 = .ok (.iload_n 2, 1) := by decide +kernel
theorem dX4_readClerk_69 : decode cX4_readClerk 69 = .ok (.iload_n 3, 1) := by decide +kernel
theorem dX4_readClerk_70 : decode cX4_readClerk 70 = .ok (.iload 4, 2) := by decide +kernel
theorem dX4_readClerk_72 : decode cX4_readClerk 72 = .ok (.invokevirtual 63, 3) := by decide +kernel
theorem dX4_readClerk_75 : decode cX4_readClerk 75 = .ok (.aload_n 1, 1) := by decide +kernel
theorem dX4_readClerk_76 : decode cX4_readClerk 76 = .ok (.getfield 67, 3) := by decide +kernel
theorem dX4_readClerk_79 : decode cX4_readClerk 79 = .ok (.iload 7, 2) := by decide +kernel
theorem dX4_readClerk_81 : decode cX4_readClerk 81 = .ok (.iload 5, 2) := by decide +kernel
theorem dX4_readClerk_83 : decode cX4_readClerk 83 = .ok (.iastore, 1) := by decide +kernel
theorem dX4_readClerk_84 : decode cX4_readClerk 84 = .ok (.iload 6, 2) := by decide +kernel
theorem dX4_readClerk_86 : decode cX4_readClerk 86 = .ok (.ifCond .eq 18, 3) := by decide +kernel
theorem dX4_readClerk_89 : decode cX4_readClerk 89 = .ok (.aload_n 1, 1) := by decide +kernel
theorem dX4_readClerk_90 : decode cX4_readClerk 90 = .ok (.dup, 1) := by decide +kernel
theorem dX4_readClerk_91 : decode cX4_readClerk 91 = .ok (.getfield 70, 3) := by decide +kernel
theorem dX4_readClerk_94 : decode cX4_readClerk 94 = .ok (.iconst 1, 1) := by decide +kernel
theorem dX4_readClerk_95 : decode cX4_readClerk 95 = .ok (.iload 7, 2) := by decide +kernel
theorem dX4_readClerk_97 : decode cX4_readClerk 97 = .ok (.ishl, 1) := by decide +kernel
theorem dX4_readClerk_98 : decode cX4_readClerk 98 = .ok (.iconst (-1), 1) := by decide +kernel
theorem dX4_readClerk_99 : decode cX4_readClerk 99 = .ok (.ixor, 1) := by decide +kernel
theorem dX4_readClerk_100 : decode cX4_readClerk 100 = .ok (.iand, 1) := by decide +kernel
theorem dX4_readClerk_101 : decode cX4_readClerk 101 = .ok (.putfield 70, 3) := by decide +kernel
theorem dX4_readClerk_104 : decode cX4_readClerk 104 = .ok (.return_, 1) := by decide +kernel
set_option maxRecDepth 20000 in
theorem ggX4_kindLetter_X4_nextLetter : GoodIn wsX4_kindLetter wsX4_nextLetter := goodIn_r _ [7, 2, 8, 9, 10, 11, 12, 6, 13, 17, 18, 19, 20] (by decide +kernel) (by decide +kernel)
set_option maxRecDepth 20000 in
theorem gX4_kindLetter_X4_nextLetter : GoodIn wsX4_kindLetter (wsV RX4 73 RX4 yX4_nextLetter wsX4_nextLetter) := goodIn_app (goodIn_of _ (by decide +kernel)) ggX4_kindLetter_X4_nextLetter
set_option maxRecDepth 20000 in
theorem ggX4_kindLetter_X4_kindOf : GoodIn wsX4_kindLetter wsX4_kindOf := goodIn_r _ [16] (by decide +kernel) (by decide +kernel)
set_option maxRecDepth 20000 in
theorem gX4_kindLetter_X4_kindOf : GoodIn wsX4_kindLetter (va_wsS RX4 76 yX4_kindOf wsX4_kindOf) := goodIn_app (goodIn_of _ (by decide +kernel)) ggX4_kindLetter_X4_kindOf
theorem dX4_kindLetter_0 : decode cX4_kindLetter 0 = .ok (.aload_n 0, 1) := by decide +kernel
theorem dX4_kindLetter_1 : decode cX4_kindLetter 1 = .ok (.getfield 22, 3) := by decide +kernel
theorem dX4_kindLetter_4 : decode cX4_kindLetter 4 = .ok (.ifCond .eq 5, 3) := by decide +kernel
theorem dX4_kindLetter_7 : decode cX4_kindLetter 7 = .ok (.iconst 0, 1) := by decide +kernel
theorem dX4_kindLetter_8 : decode cX4_kindLetter 8 = .ok (.ireturn, 1) := by decide +kernel
theorem dX4_kindLetter_9 : decode cX4_kindLetter 9 = .ok (.aload_n 0, 1) := by decide +kernel
theorem dX4_kindLetter_10 : decode cX4_kindLetter 10 = .ok (.invokevirtual 73, 3) := by decide +kernel
theorem dX4_kindLetter_13 : decode cX4_kindLetter 13 = .ok (.invokestatic 76, 3) := by decide +kernel
theorem dX4_kindLetter_16 : decode cX4_kindLetter 16 = .ok (.istore_n 1, 1) := by decide +kernel
theorem dX4_kindLetter_17 : decode cX4_kindLetter 17 = .ok (.iload_n 1, 1) := by decide +kernel
theorem dX4_kindLetter_18 : decode cX4_kindLetter 18 = .ok (.ifCond .ge 10, 3) := by decide +kernel
theorem dX4_kindLetter_21 : decode cX4_kindLetter 21 = .ok (.aload_n 0, 1) := by decide +kernel
theorem dX4_kindLetter_22 : decode cX4_kindLetter 22 = .ok (.iconst 1, 1) := by decide +kernel
theorem dX4_kindLetter_23 : decode cX4_kindLetter 23 = .ok (.putfield 22, 3) := by decide +kernel
theorem dX4_kindLetter_26 : decode cX4_kindLetter 26 = .ok (.iconst 0, 1) := by decide +kernel
theorem dX4_kindLetter_27 : decode cX4_kindLetter 27 = .ok (.ireturn, 1) := by decide +kernel
theorem dX4_kindLetter_28 : decode cX4_kindLetter 28 = .ok (.aload_n 0, 1) := by decide +kernel
theorem dX4_kindLetter_29 : decode cX4_kindLetter 29 = .ok (.dup, 1) := by decide +kernel
theorem dX4_kindLetter_30 : decode cX4_kindLetter 30 = .ok (.getfield 19, 3) := by decide +kernel
theorem dX4_kindLetter_33 : decode cX4_kindLetter 33 = .ok (.iconst 1, 1) := by decide +kernel
theorem dX4_kindLetter_34 : decode cX4_kindLetter 34 = .ok (.iadd, 1) := by decide +kernel
theorem dX4_kindLetter_35 : decode cX4_kindLetter 35 = .ok (.putfield 19, 3) := by decide +kernel
theorem dX4_kindLetter_38 : decode cX4_kindLetter 38 = .ok (.iload_n 1, 1) := by decide +kernel
theorem dX4_kindLetter_39 : decode cX4_kindLetter 39 = .ok (.ireturn, 1) := by decide +kernel
theorem dX4_kindOf_0 : decode cX4_kindOf 0 = .ok (.iload_n 0, 1) := by decide +kernel
theorem dX4_kindOf_1 : decode cX4_kindOf 1 = .ok (.lookupswitch 61 #[(99, 57), (110, 53), (111, 59), (112, 51), (115, 55)], 51) := by decide +kernel
theorem dX4_kindOf_52 : decode cX4_kindOf 52 = .ok (.iconst 0, 1) := by decide +kernel
theorem dX4_kindOf_53 : decode cX4_kindOf 53 = .ok (.ireturn, 1) := by decide +kernel
theorem dX4_kindOf_54 : decode cX4_kindOf 54 = .ok (.iconst 1, 1) := by decide +kernel
theorem dX4_kindOf_55 : decode cX4_kindOf 55 = .ok (.ireturn, 1) := by decide +kernel
theorem dX4_kindOf_56 : decode cX4_kindOf 56 = .ok (.iconst 2, 1) := by decide +kernel
theorem dX4_kindOf_57 : decode cX4_kindOf 57 = .ok (.ireturn, 1) := by decide +kernel
theorem dX4_kindOf_58 : decode cX4_kindOf 58 = .ok (.iconst 3, 1) := by decide +kernel
theorem dX4_kindOf_59 : decode cX4_kindOf 59 = .ok (.ireturn, 1) := by decide +kernel
theorem dX4_kindOf_60 : decode cX4_kindOf 60 = .ok (.iconst 4, 1) := by decide +kernel
theorem dX4_kindOf_61 : decode cX4_kindOf 61 = .ok (.ireturn, 1) := by decide +kernel
theorem dX4_kindOf_62 : decode cX4_kindOf 62 = .ok (.bipush (-4), 2) := by decide +kernel
theorem dX4_kindOf_64 : decode cX4_kindOf 64 = .ok (.ireturn, 1) := by decide +kernel
set_option maxRecDepth 20000 in
theorem ggX4_nextLetter_X4_letterHere : GoodIn wsX4_nextLetter wsX4_letterHere := goodIn_r _ [8, 1, 2, 3, 9, 10, 11, 12] (by decide +kernel) (by decide +kernel)
set_option maxRecDepth 20000 in
theorem gX4_nextLetter_X4_letterHere : GoodIn wsX4_nextLetter (wsV RX4 79 RX4 yX4_letterHere wsX4_letterHere) := goodIn_app (goodIn_of _ (by decide +kernel)) ggX4_nextLetter_X4_letterHere
theorem dX4_nextLetter_0 : decode cX4_nextLetter 0 = .ok (.aload_n 0, 1) := by decide +kernel
theorem dX4_nextLetter_1 : decode cX4_nextLetter 1 = .ok (.getfield 19, 3) := by decide +kernel
theorem dX4_nextLetter_4 : decode cX4_nextLetter 4 = .ok (.aload_n 0, 1) := by decide +kernel
theorem dX4_nextLetter_5 : decode cX4_nextLetter 5 = .ok (.getfield 15, 3) := by decide +kernel
theorem dX4_nextLetter_8 : decode cX4_nextLetter 8 = .ok (.if_icmp .ge 39, 3) := by decide +kernel
theorem dX4_nextLetter_11 : decode cX4_nextLetter 11 = .ok (.aload_n 0, 1) := by decide +kernel
theorem dX4_nextLetter_12 : decode cX4_nextLetter 12 = .ok (.getfield 19, 3) := by decide +kernel
theorem dX4_nextLetter_15 : decode cX4_nextLetter 15 = .ok (.bipush 70, 2) := by decide +kernel
theorem dX4_nextLetter_17 : decode cX4_nextLetter 17 = .ok (.if_icmp .ge 30, 3) := by decide +kernel
theorem dX4_nextLetter_20 : decode cX4_nextLetter 20 = .ok (.aload_n 0, 1) := by decide +kernel
theorem dX4_nextLetter_21 : decode cX4_nextLetter 21 = .ok (.getfield 9, 3) := by decide +kernel
theorem dX4_nextLetter_24 : decode cX4_nextLetter 24 = .ok (.aload_n 0, 1) := by decide +kernel
theorem dX4_nextLetter_25 : decode cX4_nextLetter 25 = .ok (.getfield 19, 3) := by decide +kernel
theorem dX4_nextLetter_28 : decode cX4_nextLetter 28 = .ok (.iaload, 1) := by decide +kernel
theorem dX4_nextLetter_29 : decode cX4_nextLetter 29 = .ok (.bipush 32, 2) := by decide +kernel
theorem dX4_nextLetter_31 : decode cX4_nextLetter 31 = .ok (.if_icmp .ne 16, 3) := by decide +kernel
theorem dX4_nextLetter_34 : decode cX4_nextLetter 34 = .ok (.aload_n 0, 1) := by decide +kernel
theorem dX4_nextLetter_35 : decode cX4_nextLetter 35 = .ok (.dup, 1) := by decide +kernel
theorem dX4_nextLetter_36 : decode cX4_nextLetter 36 = .ok (.getfield 19, 3) := by decide +kernel
theorem dX4_nextLetter_39 : decode cX4_nextLetter 39 = .ok (.iconst 1, 1) := by decide +kernel
theorem dX4_nextLetter_40 : decode cX4_nextLetter 40 = .ok (.iadd, 1) := by decide +kernel
theorem dX4_nextLetter_41 : decode cX4_nextLetter 41 = .ok (.putfield 19, 3) := by decide +kernel
theorem dX4_nextLetter_44 : decode cX4_nextLetter 44 = .ok (.goto (-44), 3) := by decide +kernel
theorem dX4_nextLetter_47 : decode cX4_nextLetter 47 = .ok (.aload_n 0, 1) := by decide +kernel
theorem dX4_nextLetter_48 : decode cX4_nextLetter 48 = .ok (.invokevirtual 79, 3) := by decide +kernel
theorem dX4_nextLetter_51 : decode cX4_nextLetter 51 = .ok (.ireturn, 1) := by decide +kernel
theorem dX4_letterHere_0 : decode cX4_letterHere 0 = .ok (.aload_n 0, 1) := by decide +kernel
theorem dX4_letterHere_1 : decode cX4_letterHere 1 = .ok (.getfield 19, 3) := by decide +kernel
theorem dX4_letterHere_4 : decode cX4_letterHere 4 = .ok (.aload_n 0, 1) := by decide +kernel
theorem dX4_letterHere_5 : decode cX4_letterHere 5 = .ok (.getfield 15, 3) := by decide +kernel
theorem dX4_letterHere_8 : decode cX4_letterHere 8 = .ok (.if_icmp .ge 24, 3) := by decide +kernel
theorem dX4_letterHere_11 : decode cX4_letterHere 11 = .ok (.aload_n 0, 1) := by decide +kernel
theorem dX4_letterHere_12 : decode cX4_letterHere 12 = .ok (.getfield 19, 3) := by decide +kernel
theorem dX4_letterHere_15 : decode cX4_letterHere 15 = .ok (.bipush 70, 2) := by decide +kernel
theorem dX4_letterHere_17 : decode cX4_letterHere 17 = .ok (.if_icmp .ge 15, 3) := by decide +kernel
theorem dX4_letterHere_20 : decode cX4_letterHere 20 = .ok (.aload_n 0, 1) := by decide +kernel
theorem dX4_letterHere_21 : decode cX4_letterHere 21 = .ok (.getfield 9, 3) := by decide +kernel
theorem dX4_letterHere_24 : decode cX4_letterHere 24 = .ok (.aload_n 0, 1) := by decide +kernel
theorem dX4_letterHere_25 : decode cX4_letterHere 25 = .ok (.getfield 19, 3) := by decide +kernel
theorem dX4_letterHere_28 : decode cX4_letterHere 28 = .ok (.iaload, 1) := by decide +kernel
theorem dX4_letterHere_29 : decode cX4_letterHere 29 = .ok (.goto 4, 3) := by decide +kernel
theorem dX4_letterHere_32 : decode cX4_letterHere 32 = .ok (.iconst (-1), 1) := by decide +kernel
theorem dX4_letterHere_33 : decode cX4_letterHere 33 = .ok (.ireturn, 1) := by decide +kernel
set_option maxRecDepth 20000 in
theorem ggX4_found_X4_nextLetter : GoodIn wsX4_found wsX4_nextLetter := goodIn_r _ [7, 2, 8, 9, 10, 11, 12, 6, 13, 14, 15, 16, 17] (by decide +kernel) (by decide +kernel)
set_option maxRecDepth 20000 in
theorem gX4_found_X4_nextLetter : GoodIn wsX4_found (wsV RX4 73 RX4 yX4_nextLetter wsX4_nextLetter) := goodIn_app (goodIn_of _ (by decide +kernel)) ggX4_found_X4_nextLetter
theorem dX4_found_0 : decode cX4_found 0 = .ok (.aload_n 0, 1) := by decide +kernel
theorem dX4_found_1 : decode cX4_found 1 = .ok (.getfield 22, 3) := by decide +kernel
theorem dX4_found_4 : decode cX4_found 4 = .ok (.ifCond .ne 11, 3) := by decide +kernel
theorem dX4_found_7 : decode cX4_found 7 = .ok (.aload_n 0, 1) := by decide +kernel
theorem dX4_found_8 : decode cX4_found 8 = .ok (.invokevirtual 73, 3) := by decide +kernel
theorem dX4_found_11 : decode cX4_found 11 = .ok (.iload_n 1, 1) := by decide +kernel
theorem dX4_found_12 : decode cX4_found 12 = .ok (.if_icmp .eq 5, 3) := by decide +kernel
theorem dX4_found_15 : decode cX4_found 15 = .ok (.iconst 0, 1) := by decide +kernel
theorem dX4_found_16 : decode cX4_found 16 = .ok (.ireturn, 1) := by decide +kernel
theorem dX4_found_17 : decode cX4_found 17 = .ok (.aload_n 0, 1) := by decide +kernel
theorem dX4_found_18 : decode cX4_found 18 = .ok (.dup, 1) := by decide +kernel
theorem dX4_found_19 : decode cX4_found 19 = .ok (.getfield 19, 3) := by decide +kernel
theorem dX4_found_22 : decode cX4_found 22 = .ok (.iconst 1, 1) := by decide +kernel
theorem dX4_found_23 : decode cX4_found 23 = .ok (.iadd, 1) := by decide +kernel
theorem dX4_found_24 : decode cX4_found 24 = .ok (.putfield 19, 3) := by decide +kernel
theorem dX4_found_27 : decode cX4_found 27 = .ok (.iconst 1, 1) := by decide +kernel
theorem dX4_found_28 : decode cX4_found 28 = .ok (.ireturn, 1) := by decide +kernel
set_option maxRecDepth 20000 in
theorem ggX4_want_X4_nextLetter : GoodIn wsX4_want wsX4_nextLetter := goodIn_r _ [7, 2, 8, 9, 10, 11, 12, 6, 13, 14, 15, 16, 17] (by decide +kernel) (by decide +kernel)
set_option maxRecDepth 20000 in
theorem gX4_want_X4_nextLetter : GoodIn wsX4_want (wsV RX4 73 RX4 yX4_nextLetter wsX4_nextLetter) := goodIn_app (goodIn_of _ (by decide +kernel)) ggX4_want_X4_nextLetter
theorem dX4_want_0 : decode cX4_want 0 = .ok (.aload_n 0, 1) := by decide +kernel
theorem dX4_want_1 : decode cX4_want 1 = .ok (.getfield 22, 3) := by decide +kernel
theorem dX4_want_4 : decode cX4_want 4 = .ok (.ifCond .ne 19, 3) := by decide +kernel
theorem dX4_want_7 : decode cX4_want 7 = .ok (.aload_n 0, 1) := by decide +kernel
theorem dX4_want_8 : decode cX4_want 8 = .ok (.invokevirtual 73, 3) := by decide +kernel
theorem dX4_want_11 : decode cX4_want 11 = .ok (.iload_n 1, 1) := by decide +kernel
theorem dX4_want_12 : decode cX4_want 12 = .ok (.if_icmp .eq 11, 3) := by decide +kernel
theorem dX4_want_15 : decode cX4_want 15 = .ok (.aload_n 0, 1) := by decide +kernel
theorem dX4_want_16 : decode cX4_want 16 = .ok (.iconst 1, 1) := by decide +kernel
theorem dX4_want_17 : decode cX4_want 17 = .ok (.putfield 22, 3) := by decide +kernel
theorem dX4_want_20 : decode cX4_want 20 = .ok (.goto 25, 3) := by decide +kernel
theorem dX4_want_23 : decode cX4_want 23 = .ok (.aload_n 0, 1) := by decide +kernel
theorem dX4_want_24 : decode cX4_want 24 = .ok (.getfield 22, 3) := by decide +kernel
theorem dX4_want_27 : decode cX4_want 27 = .ok (.ifCond .ne 18, 3) := by decide +kernel
theorem dX4_want_30 : decode cX4_want 30 = .ok (.iload_n 1, 1) := by decide +kernel
theorem dX4_want_31 : decode cX4_want 31 = .ok (.iconst (-1), 1) := by decide +kernel
theorem dX4_want_32 : decode cX4_want 32 = .ok (.if_icmp .eq 13, 3) := by decide +kernel
theorem dX4_want_35 : decode cX4_want 35 = .ok (.aload_n 0, 1) := by decide +kernel
theorem dX4_want_36 : decode cX4_want 36 = .ok (.dup, 1) := by decide +kernel
theorem dX4_want_37 : decode cX4_want 37 = .ok (.getfield 19, 3) := by decide +kernel
theorem dX4_want_40 : decode cX4_want 40 = .ok (.iconst 1, 1) := by decide +kernel
theorem dX4_want_41 : decode cX4_want 41 = .ok (.iadd, 1) := by decide +kernel
theorem dX4_want_42 : decode cX4_want 42 = .ok (.putfield 19, 3) := by decide +kernel
theorem dX4_want_45 : decode cX4_want 45 = .ok (.return_, 1) := by decide +kernel
set_option maxRecDepth 20000 in
theorem ggX4_digit_X4_nextLetter : GoodIn wsX4_digit wsX4_nextLetter := goodIn_r _ [7, 2, 8, 9, 10, 11, 12, 6, 13, 14, 15, 16, 17] (by decide +kernel) (by decide +kernel)
set_option maxRecDepth 20000 in
theorem gX4_digit_X4_nextLetter : GoodIn wsX4_digit (wsV RX4 73 RX4 yX4_nextLetter wsX4_nextLetter) := goodIn_app (goodIn_of _ (by decide +kernel)) ggX4_digit_X4_nextLetter
theorem dX4_digit_0 : decode cX4_digit 0 = .ok (.aload_n 0, 1) := by decide +kernel
theorem dX4_digit_1 : decode cX4_digit 1 = .ok (.getfield 22, 3) := by decide +kernel
theorem dX4_digit_4 : decode cX4_digit 4 = .ok (.ifCond .eq 5, 3) := by decide +kernel
theorem dX4_digit_7 : decode cX4_digit 7 = .ok (.iload_n 1, 1) := by decide +kernel
theorem dX4_digit_8 : decode cX4_digit 8 = .ok (.ireturn, 1) := by decide +kernel
theorem dX4_digit_9 : decode cX4_digit 9 = .ok (.aload_n 0, 1) := by decide +kernel
theorem dX4_digit_10 : decode cX4_digit 10 = .ok (.invokevirtual 73, 3) := by decide +kernel
theorem dX4_digit_13 : decode cX4_digit 13 = .ok (.bipush 48, 2) := by decide +kernel
theorem dX4_digit_15 : decode cX4_digit 15 = .ok (.isub, 1) := by decide +kernel
theorem dX4_digit_16 : decode cX4_digit 16 = .ok (.istore_n 2, 1) := by decide +kernel
theorem dX4_digit_17 : decode cX4_digit 17 = .ok (.iload_n 2, 1) := by decide +kernel
theorem dX4_digit_18 : decode cX4_digit 18 = .ok (.iload_n 1, 1) := by decide +kernel
theorem dX4_digit_19 : decode cX4_digit 19 = .ok (.if_icmp .lt 9, 3) := by decide +kernel
theorem dX4_digit_22 : decode cX4_digit 22 = .ok (.iload_n 2, 1) := by decide +kernel
theorem dX4_digit_23 : decode cX4_digit 23 = .ok (.bipush 9, 2) := by decide +kernel
theorem dX4_digit_25 : decode cX4_digit 25 = .ok (.if_icmp .le 10, 3) := by decide +kernel
theorem dX4_digit_28 : decode cX4_digit 28 = .ok (.aload_n 0, 1) := by decide +kernel
theorem dX4_digit_29 : decode cX4_digit 29 = .ok (.iconst 1, 1) := by decide +kernel
theorem dX4_digit_30 : decode cX4_digit 30 = .ok (.putfield 22, 3) := by decide +kernel
theorem dX4_digit_33 : decode cX4_digit 33 = .ok (.iload_n 1, 1) := by decide +kernel
theorem dX4_digit_34 : decode cX4_digit 34 = .ok (.ireturn, 1) := by decide +kernel
theorem dX4_digit_35 : decode cX4_digit 35 = .ok (.aload_n 0, 1) := by decide +kernel
theorem dX4_digit_36 : decode cX4_digit 36 = .ok (.dup, 1) := by decide +kernel
theorem dX4_digit_37 : decode cX4_digit 37 = .ok (.getfield 19, 3) := by decide +kernel
theorem dX4_digit_40 : decode cX4_digit 40 = .ok (.iconst 1, 1) := by decide +kernel
theorem dX4_digit_41 : decode cX4_digit 41 = .ok (.iadd, 1) := by decide +kernel
theorem dX4_digit_42 : decode cX4_digit 42 = .ok (.putfield 19, 3) := by decide +kernel
theorem dX4_digit_45 : decode cX4_digit 45 = .ok (.iload_n 2, 1) := by decide +kernel
theorem dX4_digit_46 : decode cX4_digit 46 = .ok (.ireturn, 1) := by decide +kernel
set_option maxRecDepth 20000 in
theorem ggX4_number_X4_digit : GoodIn wsX4_number wsX4_digit := goodIn_r _ [7, 1, 2, 8, 9, 10, 6, 11, 12, 13, 14, 15, 16, 17, 18, 19, 20, 21] (by decide +kernel) (by decide +kernel)
set_option maxRecDepth 20000 in
theorem gX4_number_X4_digit : GoodIn wsX4_number (wsV RX4 31 RX4 yX4_digit wsX4_digit) := goodIn_app (goodIn_of _ (by decide +kernel)) ggX4_number_X4_digit
set_option maxRecDepth 20000 in
theorem ggX4_number_X4_letterHere : GoodIn wsX4_number wsX4_letterHere := goodIn_r _ [17, 2, 12, 13, 18, 19, 20, 21] (by decide +kernel) (by decide +kernel)
set_option maxRecDepth 20000 in
theorem gX4_number_X4_letterHere : GoodIn wsX4_number (wsV RX4 79 RX4 yX4_letterHere wsX4_letterHere) := goodIn_app (goodIn_of _ (by decide +kernel)) ggX4_number_X4_letterHere
theorem dX4_number_0 : decode cX4_number 0 = .ok (.aload_n 0, 1) := by decide +kernel
theorem dX4_number_1 : decode cX4_number 1 = .ok (.iconst 0, 1) := by decide +kernel
theorem dX4_number_2 : decode cX4_number 2 = .ok (.invokevirtual 31, 3) := by decide +kernel
theorem dX4_number_5 : decode cX4_number 5 = .ok (.istore_n 1, 1) := by decide +kernel
theorem dX4_number_6 : decode cX4_number 6 = .ok (.aload_n 0, 1) := by decide +kernel
theorem dX4_number_7 : decode cX4_number 7 = .ok (.invokevirtual 79, 3) := by decide +kernel
theorem dX4_number_10 : decode cX4_number 10 = .ok (.bipush 48, 2) := by decide +kernel
theorem dX4_number_12 : decode cX4_number 12 = .ok (.isub, 1) := by decide +kernel
theorem dX4_number_13 : decode cX4_number 13 = .ok (.istore_n 2, 1) := by decide +kernel
theorem dX4_number_14 : decode cX4_number 14 = .ok (.aload_n 0, 1) := by decide +kernel
theorem dX4_number_15 : decode cX4_number 15 = .ok (.getfield 22, 3) := by decide +kernel
theorem dX4_number_18 : decode cX4_number 18 = .ok (.ifCond .ne 30, 3) := by decide +kernel
theorem dX4_number_21 : decode cX4_number 21 = .ok (.iload_n 2, 1) := by decide +kernel
theorem dX4_number_22 : decode cX4_number 22 = .ok (.ifCond .lt 26, 3) := by decide +kernel
theorem dX4_number_25 : decode cX4_number 25 = .ok (.iload_n 2, 1) := by decide +kernel
theorem dX4_number_26 : decode cX4_number 26 = .ok (.bipush 9, 2) := by decide +kernel
theorem dX4_number_28 : decode cX4_number 28 = .ok (.if_icmp .gt 20, 3) := by decide +kernel
theorem dX4_number_31 : decode cX4_number 31 = .ok (.aload_n 0, 1) := by decide +kernel
theorem dX4_number_32 : decode cX4_number 32 = .ok (.dup, 1) := by decide +kernel
theorem dX4_number_33 : decode cX4_number 33 = .ok (.getfield 19, 3) := by decide +kernel
theorem dX4_number_36 : decode cX4_number 36 = .ok (.iconst 1, 1) := by decide +kernel
theorem dX4_number_37 : decode cX4_number 37 = .ok (.iadd, 1) := by decide +kernel
theorem dX4_number_38 : decode cX4_number 38 = .ok (.putfield 19, 3) := by decide +kernel
theorem dX4_number_41 : decode cX4_number 41 = .ok (.bipush 10, 2) := by decide +kernel
theorem dX4_number_43 : decode cX4_number 43 = .ok (.iload_n 1, 1) := by decide +kernel
theorem dX4_number_44 : decode cX4_number 44 = .ok (.imul, 1) := by decide +kernel
theorem dX4_number_45 : decode cX4_number 45 = .ok (.iload_n 2, 1) := by decide +kernel
theorem dX4_number_46 : decode cX4_number 46 = .ok (.iadd, 1) := by decide +kernel
theorem dX4_number_47 : decode cX4_number 47 = .ok (.istore_n 1, 1) := by decide +kernel
theorem dX4_number_48 : decode cX4_number 48 = .ok (.iload_n 1, 1) := by decide +kernel
theorem dX4_number_49 : decode cX4_number 49 = .ok (.ireturn, 1) := by decide +kernel
set_option maxRecDepth 20000 in
theorem ggX5_init_X1_init : GoodIn wsX5_init wsX1_init := goodIn_r _ [28, 29, 2, 3, 30, 31, 32, 33, 34, 35, 36, 37, 38, 60, 61, 62, 63, 64, 65, 66, 67, 68, 69, 70, 71] (by decide +kernel) (by decide +kernel)
set_option maxRecDepth 20000 in
theorem gX5_init_X1_init_n9 : GoodIn wsX5_init (wsX1_init) := ggX5_init_X1_init
set_option maxRecDepth 20000 in
theorem ggX5_init_X0_init : GoodIn wsX5_init wsX0_init := goodIn_r _ [40, 41, 2, 3, 30, 42, 43, 44, 45, 81, 82, 83, 84, 85, 86] (by decide +kernel) (by decide +kernel)
set_option maxRecDepth 20000 in
theorem gX5_init_X0_init_n21 : GoodIn wsX5_init (wsX0_init) := ggX5_init_X0_init
set_option maxRecDepth 20000 in
theorem ggX5_init_X4_init : GoodIn wsX5_init wsX4_init := goodIn_r _ [47, 48, 2, 3, 30, 49, 87, 88, 89, 90] (by decide +kernel) (by decide +kernel)
set_option maxRecDepth 20000 in
theorem gX5_init_X4_init_n28 : GoodIn wsX5_init (wsX4_init) := ggX5_init_X4_init
set_option maxRecDepth 20000 in
theorem ggX5_init_X2_init : GoodIn wsX5_init wsX2_init := goodIn_r _ [51, 52, 2, 3, 30, 53, 54, 91, 92, 93] (by decide +kernel) (by decide +kernel)
set_option maxRecDepth 20000 in
theorem gX5_init_X2_init_n35 : GoodIn wsX5_init (wsX2_init) := ggX5_init_X2_init
set_option maxRecDepth 20000 in
theorem ggX5_init_X3_init : GoodIn wsX5_init wsX3_init := goodIn_r _ [56, 57, 2, 3, 58, 59, 94, 95, 96, 97] (by decide +kernel) (by decide +kernel)
set_option maxRecDepth 20000 in
theorem gX5_init_X3_init_n46 : GoodIn wsX5_init (wsX3_init) := ggX5_init_X3_init
theorem dX5_init_0 : decode cX5_init 0 = .ok (.aload_n 0, 1) := by decide +kernel
theorem dX5_init_1 : decode cX5_init 1 = .ok (.invokespecial 1, 3) := by decide +kernel
theorem dX5_init_4 : decode cX5_init 4 = .ok (.aload_n 0, 1) := by decide +kernel
theorem dX5_init_5 : decode cX5_init 5 = .ok (.new 7, 3) := by decide +kernel
theorem dX5_init_8 : decode cX5_init 8 = .ok (.dup, 1) := by decide +kernel
theorem dX5_init_9 : decode cX5_init 9 = .ok (.invokespecial 9, 3) := by decide +kernel
theorem dX5_init_12 : decode cX5_init 12 = .ok (.putfield 10, 3) := by decide +kernel
theorem dX5_init_15 : decode cX5_init 15 = .ok (.aload_n 0, 1) := by decide +kernel
theorem dX5_init_16 : decode cX5_init 16 = .ok (.new 7, 3) := by decide +kernel
theorem dX5_init_19 : decode cX5_init 19 = .ok (.dup, 1) := by decide +kernel
theorem dX5_init_20 : decode cX5_init 20 = .ok (.invokespecial 9, 3) := by decide +kernel
theorem dX5_init_23 : decode cX5_init 23 = .ok (.putfield 16, 3) := by decide +kernel
theorem dX5_init_26 : decode cX5_init 26 = .ok (.aload_n 0, 1) := by decide +kernel
theorem dX5_init_27 : decode cX5_init 27 = .ok (.new 19, 3) := by decide +kernel
theorem dX5_init_30 : decode cX5_init 30 = .ok (.dup, 1) := by decide +kernel
theorem dX5_init_31 : decode cX5_init 31 = .ok (.invokespecial 21, 3) := by decide +kernel

theorem dX1_init_0 : decode cX1_init 0 = .ok (.aload_n 0, 1) := by decide +kernel
theorem dX1_init_1 : decode cX1_init 1 = .ok (.invokespecial 1, 3) := by decide +kernel
theorem dX1_init_4 : decode cX1_init 4 = .ok (.aload_n 0, 1) := by decide +kernel
theorem dX1_init_5 : decode cX1_init 5 = .ok (.bipush 66, 2) := by decide +kernel
theorem dX1_init_7 : decode cX1_init 7 = .ok (.newarray .int, 2) := by decide +kernel
theorem dX1_init_9 : decode cX1_init 9 = .ok (.putfield 7, 3) := by decide +kernel
theorem dX1_init_12 : decode cX1_init 12 = .ok (.aload_n 0, 1) := by decide +kernel
theorem dX1_init_13 : decode cX1_init 13 = .ok (.bipush 66, 2) := by decide +kernel
theorem dX1_init_15 : decode cX1_init 15 = .ok (.newarray .int, 2) := by decide +kernel
theorem dX1_init_17 : decode cX1_init 17 = .ok (.putfield 13, 3) := by decide +kernel
theorem dX1_init_20 : decode cX1_init 20 = .ok (.aload_n 0, 1) := by decide +kernel
theorem dX1_init_21 : decode cX1_init 21 = .ok (.bipush 66, 2) := by decide +kernel
theorem dX1_init_23 : decode cX1_init 23 = .ok (.newarray .int, 2) := by decide +kernel
theorem dX1_init_25 : decode cX1_init 25 = .ok (.putfield 16, 3) := by decide +kernel
theorem dX1_init_28 : decode cX1_init 28 = .ok (.aload_n 0, 1) := by decide +kernel
theorem dX1_init_29 : decode cX1_init 29 = .ok (.bipush 66, 2) := by decide +kernel
theorem dX1_init_31 : decode cX1_init 31 = .ok (.newarray .int, 2) := by decide +kernel
theorem dX1_init_33 : decode cX1_init 33 = .ok (.putfield 19, 3) := by decide +kernel
theorem dX1_init_36 : decode cX1_init 36 = .ok (.aload_n 0, 1) := by decide +kernel
theorem dX1_init_37 : decode cX1_init 37 = .ok (.bipush 67, 2) := by decide +kernel
theorem dX1_init_39 : decode cX1_init 39 = .ok (.newarray .int, 2) := by decide +kernel
theorem dX1_init_41 : decode cX1_init 41 = .ok (.putfield 22, 3) := by decide +kernel
theorem dX1_init_44 : decode cX1_init 44 = .ok (.iload_n 1, 1) := by decide +kernel
theorem dX1_init_45 : decode cX1_init 45 = .ok (.bipush 62, 2) := by decide +kernel
theorem dX1_init_47 : decode cX1_init 47 = .ok (.irem, 1) := by decide +kernel
theorem dX1_init_48 : decode cX1_init 48 = .ok (.istore_n 2, 1) := by decide +kernel
theorem dX1_init_49 : decode cX1_init 49 = .ok (.aload_n 0, 1) := by decide +kernel
theorem dX1_init_50 : decode cX1_init 50 = .ok (.iconst 3, 1) := by decide +kernel
theorem dX1_init_51 : decode cX1_init 51 = .ok (.iload_n 2, 1) := by decide +kernel
theorem dX1_init_52 : decode cX1_init 52 = .ok (.ifCond .ge 10, 3) := by decide +kernel
theorem dX1_init_55 : decode cX1_init 55 = .ok (.iload_n 2, 1) := by decide +kernel
theorem dX1_init_56 : decode cX1_init 56 = .ok (.bipush 62, 2) := by decide +kernel
theorem dX1_init_58 : decode cX1_init 58 = .ok (.iadd, 1) := by decide +kernel
theorem dX1_init_59 : decode cX1_init 59 = .ok (.goto 4, 3) := by decide +kernel
theorem dX1_init_62 : decode cX1_init 62 = .ok (.iload_n 2, 1) := by decide +kernel
theorem dX1_init_63 : decode cX1_init 63 = .ok (.iadd, 1) := by decide +kernel
theorem dX1_init_64 : decode cX1_init 64 = .ok (.putfield 25, 3) := by decide +kernel
theorem dX1_init_67 : decode cX1_init 67 = .ok (.return_, 1) := by decide +kernel
theorem dX1_inRange_0 : decode cX1_inRange 0 = .ok (.iload_n 0, 1) := by decide +kernel
theorem dX1_inRange_1 : decode cX1_inRange 1 = .ok (.sipush (-16383), 3) := by decide +kernel
theorem dX1_inRange_4 : decode cX1_inRange 4 = .ok (.if_icmp .lt 28, 3) := by decide +kernel
theorem dX1_inRange_7 : decode cX1_inRange 7 = .ok (.iload_n 0, 1) := by decide +kernel
theorem dX1_inRange_8 : decode cX1_inRange 8 = .ok (.sipush 16383, 3) := by decide +kernel
theorem dX1_inRange_11 : decode cX1_inRange 11 = .ok (.if_icmp .gt 21, 3) := by decide +kernel
theorem dX1_inRange_14 : decode cX1_inRange 14 = .ok (.iload_n 1, 1) := by decide +kernel
theorem dX1_inRange_15 : decode cX1_inRange 15 = .ok (.sipush (-16383), 3) := by decide +kernel
theorem dX1_inRange_18 : decode cX1_inRange 18 = .ok (.if_icmp .lt 14, 3) := by decide +kernel
theorem dX1_inRange_21 : decode cX1_inRange 21 = .ok (.iload_n 1, 1) := by decide +kernel
theorem dX1_inRange_22 : decode cX1_inRange 22 = .ok (.sipush 16383, 3) := by decide +kernel
theorem dX1_inRange_25 : decode cX1_inRange 25 = .ok (.if_icmp .gt 7, 3) := by decide +kernel
theorem dX1_inRange_28 : decode cX1_inRange 28 = .ok (.iconst 1, 1) := by decide +kernel
theorem dX1_inRange_29 : decode cX1_inRange 29 = .ok (.goto 4, 3) := by decide +kernel
theorem dX1_inRange_32 : decode cX1_inRange 32 = .ok (.iconst 0, 1) := by decide +kernel
theorem dX1_inRange_33 : decode cX1_inRange 33 = .ok (.ireturn, 1) := by decide +kernel
theorem dX1_turn_0 : decode cX1_turn 0 = .ok (.lload 4, 2) := by decide +kernel
theorem dX1_turn_2 : decode cX1_turn 2 = .ok (.lload_n 0, 1) := by decide +kernel
theorem dX1_turn_3 : decode cX1_turn 3 = .ok (.lsub, 1) := by decide +kernel
theorem dX1_turn_4 : decode cX1_turn 4 = .ok (.lload 10, 2) := by decide +kernel
theorem dX1_turn_6 : decode cX1_turn 6 = .ok (.lload_n 2, 1) := by decide +kernel
theorem dX1_turn_7 : decode cX1_turn 7 = .ok (.lsub, 1) := by decide +kernel
theorem dX1_turn_8 : decode cX1_turn 8 = .ok (.lmul, 1) := by decide +kernel
theorem dX1_turn_9 : decode cX1_turn 9 = .ok (.lload 6, 2) := by decide +kernel
theorem dX1_turn_11 : decode cX1_turn 11 = .ok (.lload_n 2, 1) := by decide +kernel
theorem dX1_turn_12 : decode cX1_turn 12 = .ok (.lsub, 1) := by decide +kernel
theorem dX1_turn_13 : decode cX1_turn 13 = .ok (.lload 8, 2) := by decide +kernel
theorem dX1_turn_15 : decode cX1_turn 15 = .ok (.lload_n 0, 1) := by decide +kernel
theorem dX1_turn_16 : decode cX1_turn 16 = .ok (.lsub, 1) := by decide +kernel
theorem dX1_turn_17 : decode cX1_turn 17 = .ok (.lmul, 1) := by decide +kernel
theorem dX1_turn_18 : decode cX1_turn 18 = .ok (.lsub, 1) := by decide +kernel
theorem dX1_turn_19 : decode cX1_turn 19 = .ok (.lreturn, 1) := by decide +kernel
theorem dX1_between_0 : decode cX1_between 0 = .ok (.iload_n 0, 1) := by decide +kernel
theorem dX1_between_1 : decode cX1_between 1 = .ok (.iload_n 1, 1) := by decide +kernel
theorem dX1_between_2 : decode cX1_between 2 = .ok (.if_icmp .lt 8, 3) := by decide +kernel
theorem dX1_between_5 : decode cX1_between 5 = .ok (.iload_n 0, 1) := by decide +kernel
theorem dX1_between_6 : decode cX1_between 6 = .ok (.iload_n 2, 1) := by decide +kernel
theorem dX1_between_7 : decode cX1_between 7 = .ok (.if_icmp .le 13, 3) := by decide +kernel
theorem dX1_between_10 : decode cX1_between 10 = .ok (.iload_n 0, 1) := by decide +kernel
theorem dX1_between_11 : decode cX1_between 11 = .ok (.iload_n 2, 1) := by decide +kernel
theorem dX1_between_12 : decode cX1_between 12 = .ok (.if_icmp .lt 12, 3) := by decide +kernel
theorem dX1_between_15 : decode cX1_between 15 = .ok (.iload_n 0, 1) := by decide +kernel
theorem dX1_between_16 : decode cX1_between 16 = .ok (.iload_n 1, 1) := by decide +kernel
theorem dX1_between_17 : decode cX1_between 17 = .ok (.if_icmp .gt 7, 3) := by decide +kernel
theorem dX1_between_20 : decode cX1_between 20 = .ok (.iconst 1, 1) := by decide +kernel
theorem dX1_between_21 : decode cX1_between 21 = .ok (.goto 4, 3) := by decide +kernel
theorem dX1_between_24 : decode cX1_between 24 = .ok (.iconst 0, 1) := by decide +kernel
theorem dX1_between_25 : decode cX1_between 25 = .ok (.ireturn, 1) := by decide +kernel
set_option maxRecDepth 20000 in
theorem ggX1_side_X1_turn : GoodIn wsX1_side wsX1_turn := goodIn_r _ [7] (by decide +kernel) (by decide +kernel)
set_option maxRecDepth 20000 in
theorem gX1_side_X1_turn : GoodIn wsX1_side (va_wsS RX1 32 yX1_turn wsX1_turn) := goodIn_app (goodIn_of _ (by decide +kernel)) ggX1_side_X1_turn
theorem dX1_side_0 : decode cX1_side 0 = .ok (.iload_n 1, 1) := by decide +kernel
theorem dX1_side_1 : decode cX1_side 1 = .ok (.iconst 1, 1) := by decide +kernel
theorem dX1_side_2 : decode cX1_side 2 = .ok (.iadd, 1) := by decide +kernel
theorem dX1_side_3 : decode cX1_side 3 = .ok (.aload_n 0, 1) := by decide +kernel
theorem dX1_side_4 : decode cX1_side 4 = .ok (.getfield 29, 3) := by decide +kernel
theorem dX1_side_7 : decode cX1_side 7 = .ok (.if_icmp .ne 7, 3) := by decide +kernel
theorem dX1_side_10 : decode cX1_side 10 = .ok (.iconst 0, 1) := by decide +kernel
theorem dX1_side_11 : decode cX1_side 11 = .ok (.goto 6, 3) := by decide +kernel
theorem dX1_side_14 : decode cX1_side 14 = .ok (.iload_n 1, 1) := by decide +kernel
theorem dX1_side_15 : decode cX1_side 15 = .ok (.iconst 1, 1) := by decide +kernel
theorem dX1_side_16 : decode cX1_side 16 = .ok (.iadd, 1) := by decide +kernel
theorem dX1_side_17 : decode cX1_side 17 = .ok (.istore 4, 2) := by decide +kernel
theorem dX1_side_19 : decode cX1_side 19 = .ok (.aload_n 0, 1) := by decide +kernel
theorem dX1_side_20 : decode cX1_side 20 = .ok (.getfield 7, 3) := by decide +kernel
theorem dX1_side_23 : decode cX1_side 23 = .ok (.iload_n 1, 1) := by decide +kernel
theorem dX1_side_24 : decode cX1_side 24 = .ok (.iaload, 1) := by decide +kernel
theorem dX1_side_25 : decode cX1_side 25 = .ok (.i2l, 1) := by decide +kernel
theorem dX1_side_26 : decode cX1_side 26 = .ok (.aload_n 0, 1) := by decide +kernel
theorem dX1_side_27 : decode cX1_side 27 = .ok (.getfield 13, 3) := by decide +kernel
theorem dX1_side_30 : decode cX1_side 30 = .ok (.iload_n 1, 1) := by decide +kernel
theorem dX1_side_31 : decode cX1_side 31 = .ok (.iaload, 1) := by decide +kernel
theorem dX1_side_32 : decode cX1_side 32 = .ok (.i2l, 1) := by decide +kernel
theorem dX1_side_33 : decode cX1_side 33 = .ok (.aload_n 0, 1) := by decide +kernel
theorem dX1_side_34 : decode cX1_side 34 = .ok (.getfield 7, 3) := by decide +kernel
theorem dX1_side_37 : decode cX1_side 37 = .ok (.iload 4, 2) := by decide +kernel
theorem dX1_side_39 : decode cX1_side 39 = .ok (.iaload, 1) := by decide +kernel
theorem dX1_side_40 : decode cX1_side 40 = .ok (.i2l, 1) := by decide +kernel
theorem dX1_side_41 : decode cX1_side 41 = .ok (.aload_n 0, 1) := by decide +kernel
theorem dX1_side_42 : decode cX1_side 42 = .ok (.getfield 13, 3) := by decide +kernel
theorem dX1_side_45 : decode cX1_side 45 = .ok (.iload 4, 2) := by decide +kernel
theorem dX1_side_47 : decode cX1_side 47 = .ok (.iaload, 1) := by decide +kernel
theorem dX1_side_48 : decode cX1_side 48 = .ok (.i2l, 1) := by decide +kernel
theorem dX1_side_49 : decode cX1_side 49 = .ok (.iload_n 2, 1) := by decide +kernel
theorem dX1_side_50 : decode cX1_side 50 = .ok (.i2l, 1) := by decide +kernel
theorem dX1_side_51 : decode cX1_side 51 = .ok (.iload_n 3, 1) := by decide +kernel
theorem dX1_side_52 : decode cX1_side 52 = .ok (.i2l, 1) := by decide +kernel
theorem dX1_side_53 : decode cX1_side 53 = .ok (.invokestatic 32, 3) := by decide +kernel
theorem dX1_side_56 : decode cX1_side 56 = .ok (.lreturn, 1) := by decide +kernel
set_option maxRecDepth 20000 in
theorem ggX1_inside_X1_inRange : GoodIn wsX1_inside wsX1_inRange := goodIn_r _ [7] (by decide +kernel) (by decide +kernel)
set_option maxRecDepth 20000 in
theorem gX1_inside_X1_inRange : GoodIn wsX1_inside (va_wsS RX1 36 yX1_inRange wsX1_inRange) := goodIn_app (goodIn_of _ (by decide +kernel)) ggX1_inside_X1_inRange
set_option maxRecDepth 20000 in
theorem ggX1_inside_X1_turn : GoodIn wsX1_inside wsX1_turn := goodIn_r _ [10] (by decide +kernel) (by decide +kernel)
set_option maxRecDepth 20000 in
theorem gX1_inside_X1_turn : GoodIn wsX1_inside (va_wsS RX1 32 yX1_turn wsX1_turn) := goodIn_app (goodIn_of _ (by decide +kernel)) ggX1_inside_X1_turn
set_option maxRecDepth 20000 in
theorem ggX1_inside_X1_between : GoodIn wsX1_inside wsX1_between := goodIn_r _ [13] (by decide +kernel) (by decide +kernel)
set_option maxRecDepth 20000 in
theorem gX1_inside_X1_between : GoodIn wsX1_inside (va_wsS RX1 40 yX1_between wsX1_between) := goodIn_app (goodIn_of _ (by decide +kernel)) ggX1_inside_X1_between
set_option maxRecDepth 20000 in
theorem ggX1_inside_X1_side : GoodIn wsX1_inside wsX1_side := goodIn_r _ [17, 1, 2, 3, 8, 9, 6, 10, 18, 19, 20, 21, 22, 23, 24, 25] (by decide +kernel) (by decide +kernel)
set_option maxRecDepth 20000 in
theorem gX1_inside_X1_side : GoodIn wsX1_inside (wsV RX1 44 RX1 yX1_side wsX1_side) := goodIn_app (goodIn_of _ (by decide +kernel)) ggX1_inside_X1_side
theorem dX1_inside_0 : decode cX1_inside 0 = .ok (.aload_n 0, 1) := by decide +kernel
theorem dX1_inside_1 : decode cX1_inside 1 = .ok (.getfield 29, 3) := by decide +kernel
theorem dX1_inside_4 : decode cX1_inside 4 = .ok (.ifCond .eq 11, 3) := by decide +kernel
theorem dX1_inside_7 : decode cX1_inside 7 = .ok (.iload_n 1, 1) := by decide +kernel
theorem dX1_inside_8 : decode cX1_inside 8 = .ok (.iload_n 2, 1) := by decide +kernel
theorem dX1_inside_9 : decode cX1_inside 9 = .ok (.invokestatic 36, 3) := by decide +kernel
theorem dX1_inside_12 : decode cX1_inside 12 = .ok (.ifCond .ne 5, 3) := by decide +kernel
theorem dX1_inside_15 : decode cX1_inside 15 = .ok (.iconst 0, 1) := by decide +kernel
theorem dX1_inside_16 : decode cX1_inside 16 = .ok (.ireturn, 1) := by decide +kernel
theorem dX1_inside_17 : decode cX1_inside 17 = .ok (.aload_n 0, 1) := by decide +kernel
theorem dX1_inside_18 : decode cX1_inside 18 = .ok (.getfield 29, 3) := by decide +kernel
theorem dX1_inside_21 : decode cX1_inside 21 = .ok (.iconst 3, 1) := by decide +kernel
theorem dX1_inside_22 : decode cX1_inside 22 = .ok (.if_icmp .ge 106, 3) := by decide +kernel
theorem dX1_inside_25 : decode cX1_inside 25 = .ok (.aload_n 0, 1) := by decide +kernel
theorem dX1_inside_26 : decode cX1_inside 26 = .ok (.getfield 29, 3) := by decide +kernel
theorem dX1_inside_29 : decode cX1_inside 29 = .ok (.iconst 1, 1) := by decide +kernel
theorem dX1_inside_30 : decode cX1_inside 30 = .ok (.isub, 1) := by decide +kernel
theorem dX1_inside_31 : decode cX1_inside 31 = .ok (.istore_n 3, 1) := by decide +kernel
theorem dX1_inside_32 : decode cX1_inside 32 = .ok (.aload_n 0, 1) := by decide +kernel
theorem dX1_inside_33 : decode cX1_inside 33 = .ok (.getfield 7, 3) := by decide +kernel
theorem dX1_inside_36 : decode cX1_inside 36 = .ok (.iconst 0, 1) := by decide +kernel
theorem dX1_inside_37 : decode cX1_inside 37 = .ok (.iaload, 1) := by decide +kernel
theorem dX1_inside_38 : decode cX1_inside 38 = .ok (.i2l, 1) := by decide +kernel
theorem dX1_inside_39 : decode cX1_inside 39 = .ok (.aload_n 0, 1) := by decide +kernel
theorem dX1_inside_40 : decode cX1_inside 40 = .ok (.getfield 13, 3) := by decide +kernel
theorem dX1_inside_43 : decode cX1_inside 43 = .ok (.iconst 0, 1) := by decide +kernel
theorem dX1_inside_44 : decode cX1_inside 44 = .ok (.iaload, 1) := by decide +kernel
theorem dX1_inside_45 : decode cX1_inside 45 = .ok (.i2l, 1) := by decide +kernel
theorem dX1_inside_46 : decode cX1_inside 46 = .ok (.aload_n 0, 1) := by decide +kernel
theorem dX1_inside_47 : decode cX1_inside 47 = .ok (.getfield 7, 3) := by decide +kernel
theorem dX1_inside_50 : decode cX1_inside 50 = .ok (.iload_n 3, 1) := by decide +kernel
theorem dX1_inside_51 : decode cX1_inside 51 = .ok (.iaload, 1) := by decide +kernel
theorem dX1_inside_52 : decode cX1_inside 52 = .ok (.i2l, 1) := by decide +kernel
theorem dX1_inside_53 : decode cX1_inside 53 = .ok (.aload_n 0, 1) := by decide +kernel
theorem dX1_inside_54 : decode cX1_inside 54 = .ok (.getfield 13, 3) := by decide +kernel
theorem dX1_inside_57 : decode cX1_inside 57 = .ok (.iload_n 3, 1) := by decide +kernel
theorem dX1_inside_58 : decode cX1_inside 58 = .ok (.iaload, 1) := by decide +kernel
theorem dX1_inside_59 : decode cX1_inside 59 = .ok (.i2l, 1) := by decide +kernel
theorem dX1_inside_60 : decode cX1_inside 60 = .ok (.iload_n 1, 1) := by decide +kernel
theorem dX1_inside_61 : decode cX1_inside 61 = .ok (.i2l, 1) := by decide +kernel
theorem dX1_inside_62 : decode cX1_inside 62 = .ok (.iload_n 2, 1) := by decide +kernel
theorem dX1_inside_63 : decode cX1_inside 63 = .ok (.i2l, 1) := by decide +kernel
theorem dX1_inside_64 : decode cX1_inside 64 = .ok (.invokestatic 32, 3) := by decide +kernel
theorem dX1_inside_67 : decode cX1_inside 67 = .ok (.lconst 0, 1) := by decide +kernel
theorem dX1_inside_68 : decode cX1_inside 68 = .ok (.lcmp, 1) := by decide +kernel
theorem dX1_inside_69 : decode cX1_inside 69 = .ok (.ifCond .ne 45, 3) := by decide +kernel
theorem dX1_inside_72 : decode cX1_inside 72 = .ok (.iload_n 1, 1) := by decide +kernel
theorem dX1_inside_73 : decode cX1_inside 73 = .ok (.aload_n 0, 1) := by decide +kernel
theorem dX1_inside_74 : decode cX1_inside 74 = .ok (.getfield 7, 3) := by decide +kernel
theorem dX1_inside_77 : decode cX1_inside 77 = .ok (.iconst 0, 1) := by decide +kernel
theorem dX1_inside_78 : decode cX1_inside 78 = .ok (.iaload, 1) := by decide +kernel
theorem dX1_inside_79 : decode cX1_inside 79 = .ok (.aload_n 0, 1) := by decide +kernel
theorem dX1_inside_80 : decode cX1_inside 80 = .ok (.getfield 7, 3) := by decide +kernel
theorem dX1_inside_83 : decode cX1_inside 83 = .ok (.iload_n 3, 1) := by decide +kernel
theorem dX1_inside_84 : decode cX1_inside 84 = .ok (.iaload, 1) := by decide +kernel
theorem dX1_inside_85 : decode cX1_inside 85 = .ok (.invokestatic 40, 3) := by decide +kernel
theorem dX1_inside_88 : decode cX1_inside 88 = .ok (.ifCond .eq 26, 3) := by decide +kernel
theorem dX1_inside_91 : decode cX1_inside 91 = .ok (.iload_n 2, 1) := by decide +kernel
theorem dX1_inside_92 : decode cX1_inside 92 = .ok (.aload_n 0, 1) := by decide +kernel
theorem dX1_inside_93 : decode cX1_inside 93 = .ok (.getfield 13, 3) := by decide +kernel
theorem dX1_inside_96 : decode cX1_inside 96 = .ok (.iconst 0, 1) := by decide +kernel
theorem dX1_inside_97 : decode cX1_inside 97 = .ok (.iaload, 1) := by decide +kernel
theorem dX1_inside_98 : decode cX1_inside 98 = .ok (.aload_n 0, 1) := by decide +kernel
theorem dX1_inside_99 : decode cX1_inside 99 = .ok (.getfield 13, 3) := by decide +kernel
theorem dX1_inside_102 : decode cX1_inside 102 = .ok (.iload_n 3, 1) := by decide +kernel
theorem dX1_inside_103 : decode cX1_inside 103 = .ok (.iaload, 1) := by decide +kernel
theorem dX1_inside_104 : decode cX1_inside 104 = .ok (.invokestatic 40, 3) := by decide +kernel
theorem dX1_inside_107 : decode cX1_inside 107 = .ok (.ifCond .eq 7, 3) := by decide +kernel
theorem dX1_inside_110 : decode cX1_inside 110 = .ok (.iconst 1, 1) := by decide +kernel
theorem dX1_inside_111 : decode cX1_inside 111 = .ok (.goto 4, 3) := by decide +kernel
theorem dX1_inside_114 : decode cX1_inside 114 = .ok (.iconst 0, 1) := by decide +kernel
theorem dX1_inside_115 : decode cX1_inside 115 = .ok (.istore 4, 2) := by decide +kernel
theorem dX1_inside_117 : decode cX1_inside 117 = .ok (.iload 4, 2) := by decide +kernel
theorem dX1_inside_119 : decode cX1_inside 119 = .ok (.ifCond .eq 7, 3) := by decide +kernel
theorem dX1_inside_122 : decode cX1_inside 122 = .ok (.iconst 1, 1) := by decide +kernel
theorem dX1_inside_123 : decode cX1_inside 123 = .ok (.goto 4, 3) := by decide +kernel
theorem dX1_inside_126 : decode cX1_inside 126 = .ok (.iconst 0, 1) := by decide +kernel
theorem dX1_inside_127 : decode cX1_inside 127 = .ok (.ireturn, 1) := by decide +kernel
theorem dX1_inside_128 : decode cX1_inside 128 = .ok (.iconst 0, 1) := by decide +kernel
theorem dX1_inside_129 : decode cX1_inside 129 = .ok (.istore_n 3, 1) := by decide +kernel
theorem dX1_inside_130 : decode cX1_inside 130 = .ok (.iconst 0, 1) := by decide +kernel
theorem dX1_inside_131 : decode cX1_inside 131 = .ok (.istore 4, 2) := by decide +kernel
theorem dX1_inside_133 : decode cX1_inside 133 = .ok (.iload 4, 2) := by decide +kernel
theorem dX1_inside_135 : decode cX1_inside 135 = .ok (.aload_n 0, 1) := by decide +kernel
theorem dX1_inside_136 : decode cX1_inside 136 = .ok (.getfield 29, 3) := by decide +kernel
theorem dX1_inside_139 : decode cX1_inside 139 = .ok (.if_icmp .ge 45, 3) := by decide +kernel
theorem dX1_inside_142 : decode cX1_inside 142 = .ok (.aload_n 0, 1) := by decide +kernel
theorem dX1_inside_143 : decode cX1_inside 143 = .ok (.iload 4, 2) := by decide +kernel
theorem dX1_inside_145 : decode cX1_inside 145 = .ok (.iload_n 1, 1) := by decide +kernel
theorem dX1_inside_146 : decode cX1_inside 146 = .ok (.iload_n 2, 1) := by decide +kernel
theorem dX1_inside_147 : decode cX1_inside 147 = .ok (.invokevirtual 44, 3) := by decide +kernel
theorem dX1_inside_150 : decode cX1_inside 150 = .ok (.lstore 5, 2) := by decide +kernel
theorem dX1_inside_152 : decode cX1_inside 152 = .ok (.lload 5, 2) := by decide +kernel
theorem dX1_inside_154 : decode cX1_inside 154 = .ok (.lconst 0, 1) := by decide +kernel
theorem dX1_inside_155 : decode cX1_inside 155 = .ok (.lcmp, 1) := by decide +kernel
theorem dX1_inside_156 : decode cX1_inside 156 = .ok (.ifCond .ge 5, 3) := by decide +kernel
theorem dX1_inside_159 : decode cX1_inside 159 = .ok (.iconst 0, 1) := by decide +kernel
theorem dX1_inside_160 : decode cX1_inside 160 = .ok (.ireturn, 1) := by decide +kernel
theorem dX1_inside_161 : decode cX1_inside 161 = .ok (.iload_n 3, 1) := by decide +kernel
theorem dX1_inside_162 : decode cX1_inside 162 = .ok (.ifCond .ne 10, 3) := by decide +kernel
theorem dX1_inside_165 : decode cX1_inside 165 = .ok (.lload 5, 2) := by decide +kernel
theorem dX1_inside_167 : decode cX1_inside 167 = .ok (.lconst 0, 1) := by decide +kernel
theorem dX1_inside_168 : decode cX1_inside 168 = .ok (.lcmp, 1) := by decide +kernel
theorem dX1_inside_169 : decode cX1_inside 169 = .ok (.ifCond .ne 7, 3) := by decide +kernel
theorem dX1_inside_172 : decode cX1_inside 172 = .ok (.iconst 1, 1) := by decide +kernel
theorem dX1_inside_173 : decode cX1_inside 173 = .ok (.goto 4, 3) := by decide +kernel
theorem dX1_inside_176 : decode cX1_inside 176 = .ok (.iconst 0, 1) := by decide +kernel
theorem dX1_inside_177 : decode cX1_inside 177 = .ok (.istore_n 3, 1) := by decide +kernel
theorem dX1_inside_178 : decode cX1_inside 178 = .ok (.iinc 4 1, 3) := by decide +kernel
theorem dX1_inside_181 : decode cX1_inside 181 = .ok (.goto (-48), 3) := by decide +kernel
theorem dX1_inside_184 : decode cX1_inside 184 = .ok (.iload_n 3, 1) := by decide +kernel
theorem dX1_inside_185 : decode cX1_inside 185 = .ok (.ifCond .eq 7, 3) := by decide +kernel
theorem dX1_inside_188 : decode cX1_inside 188 = .ok (.iconst 1, 1) := by decide +kernel
theorem dX1_inside_189 : decode cX1_inside 189 = .ok (.goto 4, 3) := by decide +kernel
theorem dX1_inside_192 : decode cX1_inside 192 = .ok (.iconst 2, 1) := by decide +kernel
theorem dX1_inside_193 : decode cX1_inside 193 = .ok (.ireturn, 1) := by decide +kernel
set_option maxRecDepth 20000 in
theorem ggX1_isNext_X1_turn : GoodIn wsX1_isNext wsX1_turn := goodIn_r _ [6] (by decide +kernel) (by decide +kernel)
set_option maxRecDepth 20000 in
theorem gX1_isNext_X1_turn : GoodIn wsX1_isNext (va_wsS RX1 32 yX1_turn wsX1_turn) := goodIn_app (goodIn_of _ (by decide +kernel)) ggX1_isNext_X1_turn
theorem dX1_isNext_0 : decode cX1_isNext 0 = .ok (.aload_n 0, 1) := by decide +kernel
theorem dX1_isNext_1 : decode cX1_isNext 1 = .ok (.getfield 16, 3) := by decide +kernel
theorem dX1_isNext_4 : decode cX1_isNext 4 = .ok (.iload_n 1, 1) := by decide +kernel
theorem dX1_isNext_5 : decode cX1_isNext 5 = .ok (.iaload, 1) := by decide +kernel
theorem dX1_isNext_6 : decode cX1_isNext 6 = .ok (.i2l, 1) := by decide +kernel
theorem dX1_isNext_7 : decode cX1_isNext 7 = .ok (.aload_n 0, 1) := by decide +kernel
theorem dX1_isNext_8 : decode cX1_isNext 8 = .ok (.getfield 19, 3) := by decide +kernel
theorem dX1_isNext_11 : decode cX1_isNext 11 = .ok (.iload_n 1, 1) := by decide +kernel
theorem dX1_isNext_12 : decode cX1_isNext 12 = .ok (.iaload, 1) := by decide +kernel
theorem dX1_isNext_13 : decode cX1_isNext 13 = .ok (.i2l, 1) := by decide +kernel
theorem dX1_isNext_14 : decode cX1_isNext 14 = .ok (.aload_n 0, 1) := by decide +kernel
theorem dX1_isNext_15 : decode cX1_isNext 15 = .ok (.getfield 16, 3) := by decide +kernel
theorem dX1_isNext_18 : decode cX1_isNext 18 = .ok (.iload_n 2, 1) := by decide +kernel
theorem dX1_isNext_19 : decode cX1_isNext 19 = .ok (.iaload, 1) := by decide +kernel
theorem dX1_isNext_20 : decode cX1_isNext 20 = .ok (.i2l, 1) := by decide +kernel
theorem dX1_isNext_21 : decode cX1_isNext 21 = .ok (.aload_n 0, 1) := by decide +kernel
theorem dX1_isNext_22 : decode cX1_isNext 22 = .ok (.getfield 19, 3) := by decide +kernel
theorem dX1_isNext_25 : decode cX1_isNext 25 = .ok (.iload_n 2, 1) := by decide +kernel
theorem dX1_isNext_26 : decode cX1_isNext 26 = .ok (.iaload, 1) := by decide +kernel
theorem dX1_isNext_27 : decode cX1_isNext 27 = .ok (.i2l, 1) := by decide +kernel
theorem dX1_isNext_28 : decode cX1_isNext 28 = .ok (.aload_n 0, 1) := by decide +kernel
theorem dX1_isNext_29 : decode cX1_isNext 29 = .ok (.getfield 16, 3) := by decide +kernel
theorem dX1_isNext_32 : decode cX1_isNext 32 = .ok (.iload_n 3, 1) := by decide +kernel
theorem dX1_isNext_33 : decode cX1_isNext 33 = .ok (.iaload, 1) := by decide +kernel
theorem dX1_isNext_34 : decode cX1_isNext 34 = .ok (.i2l, 1) := by decide +kernel
theorem dX1_isNext_35 : decode cX1_isNext 35 = .ok (.aload_n 0, 1) := by decide +kernel
theorem dX1_isNext_36 : decode cX1_isNext 36 = .ok (.getfield 19, 3) := by decide +kernel
theorem dX1_isNext_39 : decode cX1_isNext 39 = .ok (.iload_n 3, 1) := by decide +kernel
theorem dX1_isNext_40 : decode cX1_isNext 40 = .ok (.iaload, 1) := by decide +kernel
theorem dX1_isNext_41 : decode cX1_isNext 41 = .ok (.i2l, 1) := by decide +kernel
theorem dX1_isNext_42 : decode cX1_isNext 42 = .ok (.invokestatic 32, 3) := by decide +kernel
theorem dX1_isNext_45 : decode cX1_isNext 45 = .ok (.lstore 4, 2) := by decide +kernel
theorem dX1_isNext_47 : decode cX1_isNext 47 = .ok (.aload_n 0, 1) := by decide +kernel
theorem dX1_isNext_48 : decode cX1_isNext 48 = .ok (.getfield 16, 3) := by decide +kernel
theorem dX1_isNext_51 : decode cX1_isNext 51 = .ok (.iload_n 2, 1) := by decide +kernel
theorem dX1_isNext_52 : decode cX1_isNext 52 = .ok (.iaload, 1) := by decide +kernel
theorem dX1_isNext_53 : decode cX1_isNext 53 = .ok (.aload_n 0, 1) := by decide +kernel
theorem dX1_isNext_54 : decode cX1_isNext 54 = .ok (.getfield 16, 3) := by decide +kernel
theorem dX1_isNext_57 : decode cX1_isNext 57 = .ok (.iload_n 1, 1) := by decide +kernel
theorem dX1_isNext_58 : decode cX1_isNext 58 = .ok (.iaload, 1) := by decide +kernel
theorem dX1_isNext_59 : decode cX1_isNext 59 = .ok (.isub, 1) := by decide +kernel
theorem dX1_isNext_60 : decode cX1_isNext 60 = .ok (.i2l, 1) := by decide +kernel
theorem dX1_isNext_61 : decode cX1_isNext 61 = .ok (.lstore 6, 2) := by decide +kernel
theorem dX1_isNext_63 : decode cX1_isNext 63 = .ok (.aload_n 0, 1) := by decide +kernel
theorem dX1_isNext_64 : decode cX1_isNext 64 = .ok (.getfield 19, 3) := by decide +kernel
theorem dX1_isNext_67 : decode cX1_isNext 67 = .ok (.iload_n 2, 1) := by decide +kernel
theorem dX1_isNext_68 : decode cX1_isNext 68 = .ok (.iaload, 1) := by decide +kernel
theorem dX1_isNext_69 : decode cX1_isNext 69 = .ok (.aload_n 0, 1) := by decide +kernel
theorem dX1_isNext_70 : decode cX1_isNext 70 = .ok (.getfield 19, 3) := by decide +kernel
theorem dX1_isNext_73 : decode cX1_isNext 73 = .ok (.iload_n 1, 1) := by decide +kernel
theorem dX1_isNext_74 : decode cX1_isNext 74 = .ok (.iaload, 1) := by decide +kernel
theorem dX1_isNext_75 : decode cX1_isNext 75 = .ok (.isub, 1) := by decide +kernel
theorem dX1_isNext_76 : decode cX1_isNext 76 = .ok (.i2l, 1) := by decide +kernel
theorem dX1_isNext_77 : decode cX1_isNext 77 = .ok (.lstore 8, 2) := by decide +kernel
theorem dX1_isNext_79 : decode cX1_isNext 79 = .ok (.aload_n 0, 1) := by decide +kernel
theorem dX1_isNext_80 : decode cX1_isNext 80 = .ok (.getfield 16, 3) := by decide +kernel
theorem dX1_isNext_83 : decode cX1_isNext 83 = .ok (.iload_n 3, 1) := by decide +kernel
theorem dX1_isNext_84 : decode cX1_isNext 84 = .ok (.iaload, 1) := by decide +kernel
theorem dX1_isNext_85 : decode cX1_isNext 85 = .ok (.aload_n 0, 1) := by decide +kernel
theorem dX1_isNext_86 : decode cX1_isNext 86 = .ok (.getfield 16, 3) := by decide +kernel
theorem dX1_isNext_89 : decode cX1_isNext 89 = .ok (.iload_n 1, 1) := by decide +kernel
theorem dX1_isNext_90 : decode cX1_isNext 90 = .ok (.iaload, 1) := by decide +kernel
theorem dX1_isNext_91 : decode cX1_isNext 91 = .ok (.isub, 1) := by decide +kernel
theorem dX1_isNext_92 : decode cX1_isNext 92 = .ok (.i2l, 1) := by decide +kernel
theorem dX1_isNext_93 : decode cX1_isNext 93 = .ok (.lstore 10, 2) := by decide +kernel
theorem dX1_isNext_95 : decode cX1_isNext 95 = .ok (.aload_n 0, 1) := by decide +kernel
theorem dX1_isNext_96 : decode cX1_isNext 96 = .ok (.getfield 19, 3) := by decide +kernel
theorem dX1_isNext_99 : decode cX1_isNext 99 = .ok (.iload_n 3, 1) := by decide +kernel
theorem dX1_isNext_100 : decode cX1_isNext 100 = .ok (.iaload, 1) := by decide +kernel
theorem dX1_isNext_101 : decode cX1_isNext 101 = .ok (.aload_n 0, 1) := by decide +kernel
theorem dX1_isNext_102 : decode cX1_isNext 102 = .ok (.getfield 19, 3) := by decide +kernel
theorem dX1_isNext_105 : decode cX1_isNext 105 = .ok (.iload_n 1, 1) := by decide +kernel
theorem dX1_isNext_106 : decode cX1_isNext 106 = .ok (.iaload, 1) := by decide +kernel
theorem dX1_isNext_107 : decode cX1_isNext 107 = .ok (.isub, 1) := by decide +kernel
theorem dX1_isNext_108 : decode cX1_isNext 108 = .ok (.i2l, 1) := by decide +kernel
theorem dX1_isNext_109 : decode cX1_isNext 109 = .ok (.lstore 12, 2) := by decide +kernel
theorem dX1_isNext_111 : decode cX1_isNext 111 = .ok (.lload 4, 2) := by decide +kernel
theorem dX1_isNext_113 : decode cX1_isNext 113 = .ok (.lconst 0, 1) := by decide +kernel
theorem dX1_isNext_114 : decode cX1_isNext 114 = .ok (.lcmp, 1) := by decide +kernel
theorem dX1_isNext_115 : decode cX1_isNext 115 = .ok (.ifCond .lt 36, 3) := by decide +kernel
theorem dX1_isNext_118 : decode cX1_isNext 118 = .ok (.lload 4, 2) := by decide +kernel
theorem dX1_isNext_120 : decode cX1_isNext 120 = .ok (.lconst 0, 1) := by decide +kernel
theorem dX1_isNext_121 : decode cX1_isNext 121 = .ok (.lcmp, 1) := by decide +kernel
theorem dX1_isNext_122 : decode cX1_isNext 122 = .ok (.ifCond .ne 33, 3) := by decide +kernel
theorem dX1_isNext_125 : decode cX1_isNext 125 = .ok (.lload 10, 2) := by decide +kernel
theorem dX1_isNext_127 : decode cX1_isNext 127 = .ok (.lload 10, 2) := by decide +kernel
theorem dX1_isNext_129 : decode cX1_isNext 129 = .ok (.lmul, 1) := by decide +kernel
theorem dX1_isNext_130 : decode cX1_isNext 130 = .ok (.lload 12, 2) := by decide +kernel
theorem dX1_isNext_132 : decode cX1_isNext 132 = .ok (.lload 12, 2) := by decide +kernel
theorem dX1_isNext_134 : decode cX1_isNext 134 = .ok (.lmul, 1) := by decide +kernel
theorem dX1_isNext_135 : decode cX1_isNext 135 = .ok (.ladd, 1) := by decide +kernel
theorem dX1_isNext_136 : decode cX1_isNext 136 = .ok (.lload 6, 2) := by decide +kernel
theorem dX1_isNext_138 : decode cX1_isNext 138 = .ok (.lload 6, 2) := by decide +kernel
theorem dX1_isNext_140 : decode cX1_isNext 140 = .ok (.lmul, 1) := by decide +kernel
theorem dX1_isNext_141 : decode cX1_isNext 141 = .ok (.lload 8, 2) := by decide +kernel
theorem dX1_isNext_143 : decode cX1_isNext 143 = .ok (.lload 8, 2) := by decide +kernel
theorem dX1_isNext_145 : decode cX1_isNext 145 = .ok (.lmul, 1) := by decide +kernel
theorem dX1_isNext_146 : decode cX1_isNext 146 = .ok (.ladd, 1) := by decide +kernel
theorem dX1_isNext_147 : decode cX1_isNext 147 = .ok (.lcmp, 1) := by decide +kernel
theorem dX1_isNext_148 : decode cX1_isNext 148 = .ok (.ifCond .le 7, 3) := by decide +kernel
theorem dX1_isNext_151 : decode cX1_isNext 151 = .ok (.iconst 1, 1) := by decide +kernel
theorem dX1_isNext_152 : decode cX1_isNext 152 = .ok (.goto 4, 3) := by decide +kernel
theorem dX1_isNext_155 : decode cX1_isNext 155 = .ok (.iconst 0, 1) := by decide +kernel
theorem dX1_isNext_156 : decode cX1_isNext 156 = .ok (.ireturn, 1) := by decide +kernel
set_option maxRecDepth 20000 in
theorem ggX1_goRound_X1_isNext : GoodIn wsX1_goRound wsX1_isNext := goodIn_r _ [8, 1, 2, 9, 10, 7, 11, 12, 13, 14, 15, 16, 17, 18, 19] (by decide +kernel) (by decide +kernel)
set_option maxRecDepth 20000 in
theorem gX1_goRound_X1_isNext : GoodIn wsX1_goRound (wsV RX1 48 RX1 yX1_isNext wsX1_isNext) := goodIn_app (goodIn_of _ (by decide +kernel)) ggX1_goRound_X1_isNext
theorem dX1_goRound_0 : decode cX1_goRound 0 = .ok (.iconst 0, 1) := by decide +kernel
theorem dX1_goRound_1 : decode cX1_goRound 1 = .ok (.istore_n 2, 1) := by decide +kernel
theorem dX1_goRound_2 : decode cX1_goRound 2 = .ok (.iconst 1, 1) := by decide +kernel
theorem dX1_goRound_3 : decode cX1_goRound 3 = .ok (.istore_n 3, 1) := by decide +kernel
theorem dX1_goRound_4 : decode cX1_goRound 4 = .ok (.iload_n 3, 1) := by decide +kernel
theorem dX1_goRound_5 : decode cX1_goRound 5 = .ok (.iload_n 1, 1) := by decide +kernel
theorem dX1_goRound_6 : decode cX1_goRound 6 = .ok (.if_icmp .ge 60, 3) := by decide +kernel
theorem dX1_goRound_9 : decode cX1_goRound 9 = .ok (.aload_n 0, 1) := by decide +kernel
theorem dX1_goRound_10 : decode cX1_goRound 10 = .ok (.getfield 16, 3) := by decide +kernel
theorem dX1_goRound_13 : decode cX1_goRound 13 = .ok (.iload_n 3, 1) := by decide +kernel
theorem dX1_goRound_14 : decode cX1_goRound 14 = .ok (.iaload, 1) := by decide +kernel
theorem dX1_goRound_15 : decode cX1_goRound 15 = .ok (.aload_n 0, 1) := by decide +kernel
theorem dX1_goRound_16 : decode cX1_goRound 16 = .ok (.getfield 16, 3) := by decide +kernel
theorem dX1_goRound_19 : decode cX1_goRound 19 = .ok (.iload_n 2, 1) := by decide +kernel
theorem dX1_goRound_20 : decode cX1_goRound 20 = .ok (.iaload, 1) := by decide +kernel
theorem dX1_goRound_21 : decode cX1_goRound 21 = .ok (.if_icmp .lt 33, 3) := by decide +kernel
theorem dX1_goRound_24 : decode cX1_goRound 24 = .ok (.aload_n 0, 1) := by decide +kernel
theorem dX1_goRound_25 : decode cX1_goRound 25 = .ok (.getfield 16, 3) := by decide +kernel
theorem dX1_goRound_28 : decode cX1_goRound 28 = .ok (.iload_n 3, 1) := by decide +kernel
theorem dX1_goRound_29 : decode cX1_goRound 29 = .ok (.iaload, 1) := by decide +kernel
theorem dX1_goRound_30 : decode cX1_goRound 30 = .ok (.aload_n 0, 1) := by decide +kernel
theorem dX1_goRound_31 : decode cX1_goRound 31 = .ok (.getfield 16, 3) := by decide +kernel
theorem dX1_goRound_34 : decode cX1_goRound 34 = .ok (.iload_n 2, 1) := by decide +kernel
theorem dX1_goRound_35 : decode cX1_goRound 35 = .ok (.iaload, 1) := by decide +kernel
theorem dX1_goRound_36 : decode cX1_goRound 36 = .ok (.if_icmp .ne 22, 3) := by decide +kernel
theorem dX1_goRound_39 : decode cX1_goRound 39 = .ok (.aload_n 0, 1) := by decide +kernel
theorem dX1_goRound_40 : decode cX1_goRound 40 = .ok (.getfield 19, 3) := by decide +kernel
theorem dX1_goRound_43 : decode cX1_goRound 43 = .ok (.iload_n 3, 1) := by decide +kernel
theorem dX1_goRound_44 : decode cX1_goRound 44 = .ok (.iaload, 1) := by decide +kernel
theorem dX1_goRound_45 : decode cX1_goRound 45 = .ok (.aload_n 0, 1) := by decide +kernel
theorem dX1_goRound_46 : decode cX1_goRound 46 = .ok (.getfield 19, 3) := by decide +kernel
theorem dX1_goRound_49 : decode cX1_goRound 49 = .ok (.iload_n 2, 1) := by decide +kernel
theorem dX1_goRound_50 : decode cX1_goRound 50 = .ok (.iaload, 1) := by decide +kernel
theorem dX1_goRound_51 : decode cX1_goRound 51 = .ok (.if_icmp .ge 7, 3) := by decide +kernel
theorem dX1_goRound_54 : decode cX1_goRound 54 = .ok (.iload_n 3, 1) := by decide +kernel
theorem dX1_goRound_55 : decode cX1_goRound 55 = .ok (.goto 4, 3) := by decide +kernel
theorem dX1_goRound_58 : decode cX1_goRound 58 = .ok (.iload_n 2, 1) := by decide +kernel
theorem dX1_goRound_59 : decode cX1_goRound 59 = .ok (.istore_n 2, 1) := by decide +kernel
theorem dX1_goRound_60 : decode cX1_goRound 60 = .ok (.iinc 3 1, 3) := by decide +kernel
theorem dX1_goRound_63 : decode cX1_goRound 63 = .ok (.goto (-59), 3) := by decide +kernel
theorem dX1_goRound_66 : decode cX1_goRound 66 = .ok (.iconst 0, 1) := by decide +kernel
theorem dX1_goRound_67 : decode cX1_goRound 67 = .ok (.istore_n 3, 1) := by decide +kernel
theorem dX1_goRound_68 : decode cX1_goRound 68 = .ok (.iload_n 2, 1) := by decide +kernel
theorem dX1_goRound_69 : decode cX1_goRound 69 = .ok (.istore 4, 2) := by decide +kernel
theorem dX1_goRound_71 : decode cX1_goRound 71 = .ok (.iconst 1, 1) := by decide +kernel
theorem dX1_goRound_72 : decode cX1_goRound 72 = .ok (.istore 5, 2) := by decide +kernel
theorem dX1_goRound_74 : decode cX1_goRound 74 = .ok (.iload 5, 2) := by decide +kernel
theorem dX1_goRound_76 : decode cX1_goRound 76 = .ok (.ifCond .eq 97, 3) := by decide +kernel
theorem dX1_goRound_79 : decode cX1_goRound 79 = .ok (.aload_n 0, 1) := by decide +kernel
theorem dX1_goRound_80 : decode cX1_goRound 80 = .ok (.getfield 22, 3) := by decide +kernel
theorem dX1_goRound_83 : decode cX1_goRound 83 = .ok (.iload_n 3, 1) := by decide +kernel
theorem dX1_goRound_84 : decode cX1_goRound 84 = .ok (.iload 4, 2) := by decide +kernel
theorem dX1_goRound_86 : decode cX1_goRound 86 = .ok (.iastore, 1) := by decide +kernel
theorem dX1_goRound_87 : decode cX1_goRound 87 = .ok (.iinc 3 1, 3) := by decide +kernel
theorem dX1_goRound_90 : decode cX1_goRound 90 = .ok (.iload 4, 2) := by decide +kernel
theorem dX1_goRound_92 : decode cX1_goRound 92 = .ok (.ifCond .ne 9, 3) := by decide +kernel
theorem dX1_goRound_95 : decode cX1_goRound 95 = .ok (.iload_n 1, 1) := by decide +kernel
theorem dX1_goRound_96 : decode cX1_goRound 96 = .ok (.iconst 1, 1) := by decide +kernel
theorem dX1_goRound_97 : decode cX1_goRound 97 = .ok (.isub, 1) := by decide +kernel
theorem dX1_goRound_98 : decode cX1_goRound 98 = .ok (.goto 4, 3) := by decide +kernel
theorem dX1_goRound_101 : decode cX1_goRound 101 = .ok (.iconst 0, 1) := by decide +kernel
theorem dX1_goRound_102 : decode cX1_goRound 102 = .ok (.istore 6, 2) := by decide +kernel
theorem dX1_goRound_104 : decode cX1_goRound 104 = .ok (.iconst 0, 1) := by decide +kernel
theorem dX1_goRound_105 : decode cX1_goRound 105 = .ok (.istore 7, 2) := by decide +kernel
theorem dX1_goRound_107 : decode cX1_goRound 107 = .ok (.iload 7, 2) := by decide +kernel
theorem dX1_goRound_109 : decode cX1_goRound 109 = .ok (.iload_n 1, 1) := by decide +kernel
theorem dX1_goRound_110 : decode cX1_goRound 110 = .ok (.if_icmp .ge 38, 3) := by decide +kernel
theorem dX1_goRound_113 : decode cX1_goRound 113 = .ok (.iload 7, 2) := by decide +kernel
theorem dX1_goRound_115 : decode cX1_goRound 115 = .ok (.iload 4, 2) := by decide +kernel
theorem dX1_goRound_117 : decode cX1_goRound 117 = .ok (.if_icmp .eq 21, 3) := by decide +kernel
theorem dX1_goRound_120 : decode cX1_goRound 120 = .ok (.aload_n 0, 1) := by decide +kernel
theorem dX1_goRound_121 : decode cX1_goRound 121 = .ok (.iload 4, 2) := by decide +kernel
theorem dX1_goRound_123 : decode cX1_goRound 123 = .ok (.iload 6, 2) := by decide +kernel
theorem dX1_goRound_125 : decode cX1_goRound 125 = .ok (.iload 7, 2) := by decide +kernel
theorem dX1_goRound_127 : decode cX1_goRound 127 = .ok (.invokevirtual 48, 3) := by decide +kernel
theorem dX1_goRound_130 : decode cX1_goRound 130 = .ok (.ifCond .eq 8, 3) := by decide +kernel
theorem dX1_goRound_133 : decode cX1_goRound 133 = .ok (.iload 7, 2) := by decide +kernel
theorem dX1_goRound_135 : decode cX1_goRound 135 = .ok (.goto 5, 3) := by decide +kernel
theorem dX1_goRound_138 : decode cX1_goRound 138 = .ok (.iload 6, 2) := by decide +kernel
theorem dX1_goRound_140 : decode cX1_goRound 140 = .ok (.istore 6, 2) := by decide +kernel
theorem dX1_goRound_142 : decode cX1_goRound 142 = .ok (.iinc 7 1, 3) := by decide +kernel
theorem dX1_goRound_145 : decode cX1_goRound 145 = .ok (.goto (-38), 3) := by decide +kernel
theorem dX1_goRound_148 : decode cX1_goRound 148 = .ok (.iload 6, 2) := by decide +kernel
theorem dX1_goRound_150 : decode cX1_goRound 150 = .ok (.istore 4, 2) := by decide +kernel
theorem dX1_goRound_152 : decode cX1_goRound 152 = .ok (.iload 4, 2) := by decide +kernel
theorem dX1_goRound_154 : decode cX1_goRound 154 = .ok (.iload_n 2, 1) := by decide +kernel
theorem dX1_goRound_155 : decode cX1_goRound 155 = .ok (.if_icmp .eq 12, 3) := by decide +kernel
theorem dX1_goRound_158 : decode cX1_goRound 158 = .ok (.iload_n 3, 1) := by decide +kernel
theorem dX1_goRound_159 : decode cX1_goRound 159 = .ok (.iload_n 1, 1) := by decide +kernel
theorem dX1_goRound_160 : decode cX1_goRound 160 = .ok (.if_icmp .gt 7, 3) := by decide +kernel
theorem dX1_goRound_163 : decode cX1_goRound 163 = .ok (.iconst 1, 1) := by decide +kernel
theorem dX1_goRound_164 : decode cX1_goRound 164 = .ok (.goto 4, 3) := by decide +kernel
theorem dX1_goRound_167 : decode cX1_goRound 167 = .ok (.iconst 0, 1) := by decide +kernel
theorem dX1_goRound_168 : decode cX1_goRound 168 = .ok (.istore 5, 2) := by decide +kernel
theorem dX1_goRound_170 : decode cX1_goRound 170 = .ok (.goto (-96), 3) := by decide +kernel
theorem dX1_goRound_173 : decode cX1_goRound 173 = .ok (.iload_n 3, 1) := by decide +kernel
theorem dX1_goRound_174 : decode cX1_goRound 174 = .ok (.ireturn, 1) := by decide +kernel
set_option maxRecDepth 20000 in
theorem ggX1_add_X1_inRange : GoodIn wsX1_add wsX1_inRange := goodIn_r _ [12] (by decide +kernel) (by decide +kernel)
set_option maxRecDepth 20000 in
theorem gX1_add_X1_inRange : GoodIn wsX1_add (va_wsS RX1 36 yX1_inRange wsX1_inRange) := goodIn_app (goodIn_of _ (by decide +kernel)) ggX1_add_X1_inRange
set_option maxRecDepth 20000 in
theorem ggX1_add_X1_inside : GoodIn wsX1_add wsX1_inside := goodIn_r _ [16, 2, 4, 6, 9, 10, 11, 12, 17, 18, 19, 20, 21, 22, 23, 24, 25, 26, 35, 36, 37, 38, 39, 40, 41, 42] (by decide +kernel) (by decide +kernel)
set_option maxRecDepth 20000 in
theorem gX1_add_X1_inside : GoodIn wsX1_add (wsV RX1 51 RX1 yX1_inside wsX1_inside) := goodIn_app (goodIn_of _ (by decide +kernel)) ggX1_add_X1_inside
set_option maxRecDepth 20000 in
theorem ggX1_add_X1_goRound : GoodIn wsX1_add wsX1_goRound := goodIn_r _ [30, 3, 5, 8, 31, 32, 33, 11, 34, 17, 18, 19, 35, 36, 37, 38, 39, 40, 41, 42] (by decide +kernel) (by decide +kernel)
set_option maxRecDepth 20000 in
theorem gX1_add_X1_goRound : GoodIn wsX1_add (wsV RX1 58 RX1 yX1_goRound wsX1_goRound) := goodIn_app (goodIn_of _ (by decide +kernel)) ggX1_add_X1_goRound
theorem dX1_add_0 : decode cX1_add 0 = .ok (.iload_n 1, 1) := by decide +kernel
theorem dX1_add_1 : decode cX1_add 1 = .ok (.iload_n 2, 1) := by decide +kernel
theorem dX1_add_2 : decode cX1_add 2 = .ok (.invokestatic 36, 3) := by decide +kernel
theorem dX1_add_5 : decode cX1_add 5 = .ok (.ifCond .ne 5, 3) := by decide +kernel
theorem dX1_add_8 : decode cX1_add 8 = .ok (.iconst (-1), 1) := by decide +kernel
theorem dX1_add_9 : decode cX1_add 9 = .ok (.ireturn, 1) := by decide +kernel
theorem dX1_add_10 : decode cX1_add 10 = .ok (.aload_n 0, 1) := by decide +kernel
theorem dX1_add_11 : decode cX1_add 11 = .ok (.iload_n 1, 1) := by decide +kernel
theorem dX1_add_12 : decode cX1_add 12 = .ok (.iload_n 2, 1) := by decide +kernel
theorem dX1_add_13 : decode cX1_add 13 = .ok (.invokevirtual 51, 3) := by decide +kernel
theorem dX1_add_16 : decode cX1_add 16 = .ok (.ifCond .le 15, 3) := by decide +kernel
theorem dX1_add_19 : decode cX1_add 19 = .ok (.aload_n 0, 1) := by decide +kernel
theorem dX1_add_20 : decode cX1_add 20 = .ok (.dup, 1) := by decide +kernel
theorem dX1_add_21 : decode cX1_add 21 = .ok (.getfield 55, 3) := by decide +kernel
theorem dX1_add_24 : decode cX1_add 24 = .ok (.iconst 1, 1) := by decide +kernel
theorem dX1_add_25 : decode cX1_add 25 = .ok (.iadd, 1) := by decide +kernel
theorem dX1_add_26 : decode cX1_add 26 = .ok (.putfield 55, 3) := by decide +kernel
theorem dX1_add_29 : decode cX1_add 29 = .ok (.iconst 0, 1) := by decide +kernel
theorem dX1_add_30 : decode cX1_add 30 = .ok (.ireturn, 1) := by decide +kernel
theorem dX1_add_31 : decode cX1_add 31 = .ok (.iconst 0, 1) := by decide +kernel
theorem dX1_add_32 : decode cX1_add 32 = .ok (.istore_n 3, 1) := by decide +kernel
theorem dX1_add_33 : decode cX1_add 33 = .ok (.iload_n 3, 1) := by decide +kernel
theorem dX1_add_34 : decode cX1_add 34 = .ok (.aload_n 0, 1) := by decide +kernel
theorem dX1_add_35 : decode cX1_add 35 = .ok (.getfield 29, 3) := by decide +kernel
theorem dX1_add_38 : decode cX1_add 38 = .ok (.if_icmp .ge 33, 3) := by decide +kernel
theorem dX1_add_41 : decode cX1_add 41 = .ok (.aload_n 0, 1) := by decide +kernel
theorem dX1_add_42 : decode cX1_add 42 = .ok (.getfield 16, 3) := by decide +kernel
theorem dX1_add_45 : decode cX1_add 45 = .ok (.iload_n 3, 1) := by decide +kernel
theorem dX1_add_46 : decode cX1_add 46 = .ok (.aload_n 0, 1) := by decide +kernel
theorem dX1_add_47 : decode cX1_add 47 = .ok (.getfield 7, 3) := by decide +kernel
theorem dX1_add_50 : decode cX1_add 50 = .ok (.iload_n 3, 1) := by decide +kernel
theorem dX1_add_51 : decode cX1_add 51 = .ok (.iaload, 1) := by decide +kernel
theorem dX1_add_52 : decode cX1_add 52 = .ok (.iastore, 1) := by decide +kernel
theorem dX1_add_53 : decode cX1_add 53 = .ok (.aload_n 0, 1) := by decide +kernel
theorem dX1_add_54 : decode cX1_add 54 = .ok (.getfield 19, 3) := by decide +kernel
theorem dX1_add_57 : decode cX1_add 57 = .ok (.iload_n 3, 1) := by decide +kernel
theorem dX1_add_58 : decode cX1_add 58 = .ok (.aload_n 0, 1) := by decide +kernel
theorem dX1_add_59 : decode cX1_add 59 = .ok (.getfield 13, 3) := by decide +kernel
theorem dX1_add_62 : decode cX1_add 62 = .ok (.iload_n 3, 1) := by decide +kernel
theorem dX1_add_63 : decode cX1_add 63 = .ok (.iaload, 1) := by decide +kernel
theorem dX1_add_64 : decode cX1_add 64 = .ok (.iastore, 1) := by decide +kernel
theorem dX1_add_65 : decode cX1_add 65 = .ok (.iinc 3 1, 3) := by decide +kernel
theorem dX1_add_68 : decode cX1_add 68 = .ok (.goto (-35), 3) := by decide +kernel
theorem dX1_add_71 : decode cX1_add 71 = .ok (.aload_n 0, 1) := by decide +kernel
theorem dX1_add_72 : decode cX1_add 72 = .ok (.getfield 16, 3) := by decide +kernel
theorem dX1_add_75 : decode cX1_add 75 = .ok (.aload_n 0, 1) := by decide +kernel
theorem dX1_add_76 : decode cX1_add 76 = .ok (.getfield 29, 3) := by decide +kernel
theorem dX1_add_79 : decode cX1_add 79 = .ok (.iload_n 1, 1) := by decide +kernel
theorem dX1_add_80 : decode cX1_add 80 = .ok (.iastore, 1) := by decide +kernel
theorem dX1_add_81 : decode cX1_add 81 = .ok (.aload_n 0, 1) := by decide +kernel
theorem dX1_add_82 : decode cX1_add 82 = .ok (.getfield 19, 3) := by decide +kernel
theorem dX1_add_85 : decode cX1_add 85 = .ok (.aload_n 0, 1) := by decide +kernel
theorem dX1_add_86 : decode cX1_add 86 = .ok (.getfield 29, 3) := by decide +kernel
theorem dX1_add_89 : decode cX1_add 89 = .ok (.iload_n 2, 1) := by decide +kernel
theorem dX1_add_90 : decode cX1_add 90 = .ok (.iastore, 1) := by decide +kernel
theorem dX1_add_91 : decode cX1_add 91 = .ok (.aload_n 0, 1) := by decide +kernel
theorem dX1_add_92 : decode cX1_add 92 = .ok (.aload_n 0, 1) := by decide +kernel
theorem dX1_add_93 : decode cX1_add 93 = .ok (.getfield 29, 3) := by decide +kernel
theorem dX1_add_96 : decode cX1_add 96 = .ok (.iconst 1, 1) := by decide +kernel
theorem dX1_add_97 : decode cX1_add 97 = .ok (.iadd, 1) := by decide +kernel
theorem dX1_add_98 : decode cX1_add 98 = .ok (.invokevirtual 58, 3) := by decide +kernel
theorem dX1_add_101 : decode cX1_add 101 = .ok (.istore_n 3, 1) := by decide +kernel
theorem dX1_add_102 : decode cX1_add 102 = .ok (.iload_n 3, 1) := by decide +kernel
theorem dX1_add_103 : decode cX1_add 103 = .ok (.aload_n 0, 1) := by decide +kernel
theorem dX1_add_104 : decode cX1_add 104 = .ok (.getfield 25, 3) := by decide +kernel
theorem dX1_add_107 : decode cX1_add 107 = .ok (.if_icmp .le 6, 3) := by decide +kernel
theorem dX1_add_110 : decode cX1_add 110 = .ok (.bipush (-2), 2) := by decide +kernel
theorem dX1_add_112 : decode cX1_add 112 = .ok (.ireturn, 1) := by decide +kernel
theorem dX1_add_113 : decode cX1_add 113 = .ok (.aload_n 0, 1) := by decide +kernel
theorem dX1_add_114 : decode cX1_add 114 = .ok (.getfield 29, 3) := by decide +kernel
theorem dX1_add_117 : decode cX1_add 117 = .ok (.iconst 1, 1) := by decide +kernel
theorem dX1_add_118 : decode cX1_add 118 = .ok (.iadd, 1) := by decide +kernel
theorem dX1_add_119 : decode cX1_add 119 = .ok (.iload_n 3, 1) := by decide +kernel
theorem dX1_add_120 : decode cX1_add 120 = .ok (.isub, 1) := by decide +kernel
theorem dX1_add_121 : decode cX1_add 121 = .ok (.istore 4, 2) := by decide +kernel
theorem dX1_add_123 : decode cX1_add 123 = .ok (.iconst 0, 1) := by decide +kernel
theorem dX1_add_124 : decode cX1_add 124 = .ok (.istore 5, 2) := by decide +kernel
theorem dX1_add_126 : decode cX1_add 126 = .ok (.iload 5, 2) := by decide +kernel
theorem dX1_add_128 : decode cX1_add 128 = .ok (.iload_n 3, 1) := by decide +kernel
theorem dX1_add_129 : decode cX1_add 129 = .ok (.if_icmp .ge 47, 3) := by decide +kernel
theorem dX1_add_132 : decode cX1_add 132 = .ok (.aload_n 0, 1) := by decide +kernel
theorem dX1_add_133 : decode cX1_add 133 = .ok (.getfield 7, 3) := by decide +kernel
theorem dX1_add_136 : decode cX1_add 136 = .ok (.iload 5, 2) := by decide +kernel
theorem dX1_add_138 : decode cX1_add 138 = .ok (.aload_n 0, 1) := by decide +kernel
theorem dX1_add_139 : decode cX1_add 139 = .ok (.getfield 16, 3) := by decide +kernel
theorem dX1_add_142 : decode cX1_add 142 = .ok (.aload_n 0, 1) := by decide +kernel
theorem dX1_add_143 : decode cX1_add 143 = .ok (.getfield 22, 3) := by decide +kernel
theorem dX1_add_146 : decode cX1_add 146 = .ok (.iload 5, 2) := by decide +kernel
theorem dX1_add_148 : decode cX1_add 148 = .ok (.iaload, 1) := by decide +kernel
theorem dX1_add_149 : decode cX1_add 149 = .ok (.iaload, 1) := by decide +kernel
theorem dX1_add_150 : decode cX1_add 150 = .ok (.iastore, 1) := by decide +kernel
theorem dX1_add_151 : decode cX1_add 151 = .ok (.aload_n 0, 1) := by decide +kernel
theorem dX1_add_152 : decode cX1_add 152 = .ok (.getfield 13, 3) := by decide +kernel
theorem dX1_add_155 : decode cX1_add 155 = .ok (.iload 5, 2) := by decide +kernel
theorem dX1_add_157 : decode cX1_add 157 = .ok (.aload_n 0, 1) := by decide +kernel
theorem dX1_add_158 : decode cX1_add 158 = .ok (.getfield 19, 3) := by decide +kernel
theorem dX1_add_161 : decode cX1_add 161 = .ok (.aload_n 0, 1) := by decide +kernel
theorem dX1_add_162 : decode cX1_add 162 = .ok (.getfield 22, 3) := by decide +kernel
theorem dX1_add_165 : decode cX1_add 165 = .ok (.iload 5, 2) := by decide +kernel
theorem dX1_add_167 : decode cX1_add 167 = .ok (.iaload, 1) := by decide +kernel
theorem dX1_add_168 : decode cX1_add 168 = .ok (.iaload, 1) := by decide +kernel
theorem dX1_add_169 : decode cX1_add 169 = .ok (.iastore, 1) := by decide +kernel
theorem dX1_add_170 : decode cX1_add 170 = .ok (.iinc 5 1, 3) := by decide +kernel
theorem dX1_add_173 : decode cX1_add 173 = .ok (.goto (-47), 3) := by decide +kernel
theorem dX1_add_176 : decode cX1_add 176 = .ok (.aload_n 0, 1) := by decide +kernel
theorem dX1_add_177 : decode cX1_add 177 = .ok (.iload_n 3, 1) := by decide +kernel
theorem dX1_add_178 : decode cX1_add 178 = .ok (.putfield 29, 3) := by decide +kernel
theorem dX1_add_181 : decode cX1_add 181 = .ok (.aload_n 0, 1) := by decide +kernel
theorem dX1_add_182 : decode cX1_add 182 = .ok (.dup, 1) := by decide +kernel
theorem dX1_add_183 : decode cX1_add 183 = .ok (.getfield 55, 3) := by decide +kernel
theorem dX1_add_186 : decode cX1_add 186 = .ok (.iconst 1, 1) := by decide +kernel
theorem dX1_add_187 : decode cX1_add 187 = .ok (.iadd, 1) := by decide +kernel
theorem dX1_add_188 : decode cX1_add 188 = .ok (.putfield 55, 3) := by decide +kernel
theorem dX1_add_191 : decode cX1_add 191 = .ok (.iconst 1, 1) := by decide +kernel
theorem dX1_add_192 : decode cX1_add 192 = .ok (.iload 4, 2) := by decide +kernel
theorem dX1_add_194 : decode cX1_add 194 = .ok (.iadd, 1) := by decide +kernel
theorem dX1_add_195 : decode cX1_add 195 = .ok (.ireturn, 1) := by decide +kernel
theorem dX1_size_0 : decode cX1_size 0 = .ok (.aload_n 0, 1) := by decide +kernel
theorem dX1_size_1 : decode cX1_size 1 = .ok (.getfield 29, 3) := by decide +kernel
theorem dX1_size_4 : decode cX1_size 4 = .ok (.ireturn, 1) := by decide +kernel
theorem dX1_xOf_0 : decode cX1_xOf 0 = .ok (.iload_n 1, 1) := by decide +kernel
theorem dX1_xOf_1 : decode cX1_xOf 1 = .ok (.ifCond .lt 20, 3) := by decide +kernel
theorem dX1_xOf_4 : decode cX1_xOf 4 = .ok (.iload_n 1, 1) := by decide +kernel
theorem dX1_xOf_5 : decode cX1_xOf 5 = .ok (.aload_n 0, 1) := by decide +kernel
theorem dX1_xOf_6 : decode cX1_xOf 6 = .ok (.getfield 29, 3) := by decide +kernel
theorem dX1_xOf_9 : decode cX1_xOf 9 = .ok (.if_icmp .ge 12, 3) := by decide +kernel
theorem dX1_xOf_12 : decode cX1_xOf 12 = .ok (.aload_n 0, 1) := by decide +kernel
theorem dX1_xOf_13 : decode cX1_xOf 13 = .ok (.getfield 7, 3) := by decide +kernel
theorem dX1_xOf_16 : decode cX1_xOf 16 = .ok (.iload_n 1, 1) := by decide +kernel
theorem dX1_xOf_17 : decode cX1_xOf 17 = .ok (.iaload, 1) := by decide +kernel
theorem dX1_xOf_18 : decode cX1_xOf 18 = .ok (.goto 4, 3) := by decide +kernel
theorem dX1_xOf_21 : decode cX1_xOf 21 = .ok (.iconst 0, 1) := by decide +kernel
theorem dX1_xOf_22 : decode cX1_xOf 22 = .ok (.ireturn, 1) := by decide +kernel
theorem dX1_yOf_0 : decode cX1_yOf 0 = .ok (.iload_n 1, 1) := by decide +kernel
theorem dX1_yOf_1 : decode cX1_yOf 1 = .ok (.ifCond .lt 20, 3) := by decide +kernel
theorem dX1_yOf_4 : decode cX1_yOf 4 = .ok (.iload_n 1, 1) := by decide +kernel
theorem dX1_yOf_5 : decode cX1_yOf 5 = .ok (.aload_n 0, 1) := by decide +kernel
theorem dX1_yOf_6 : decode cX1_yOf 6 = .ok (.getfield 29, 3) := by decide +kernel
theorem dX1_yOf_9 : decode cX1_yOf 9 = .ok (.if_icmp .ge 12, 3) := by decide +kernel
theorem dX1_yOf_12 : decode cX1_yOf 12 = .ok (.aload_n 0, 1) := by decide +kernel
theorem dX1_yOf_13 : decode cX1_yOf 13 = .ok (.getfield 13, 3) := by decide +kernel
theorem dX1_yOf_16 : decode cX1_yOf 16 = .ok (.iload_n 1, 1) := by decide +kernel
theorem dX1_yOf_17 : decode cX1_yOf 17 = .ok (.iaload, 1) := by decide +kernel
theorem dX1_yOf_18 : decode cX1_yOf 18 = .ok (.goto 4, 3) := by decide +kernel
theorem dX1_yOf_21 : decode cX1_yOf 21 = .ok (.iconst 0, 1) := by decide +kernel
theorem dX1_yOf_22 : decode cX1_yOf 22 = .ok (.ireturn, 1) := by decide +kernel
set_option maxRecDepth 20000 in
theorem ggX1_twiceArea_X1_turn : GoodIn wsX1_twiceArea wsX1_turn := goodIn_r _ [7] (by decide +kernel) (by decide +kernel)
set_option maxRecDepth 20000 in
theorem gX1_twiceArea_X1_turn : GoodIn wsX1_twiceArea (va_wsS RX1 32 yX1_turn wsX1_turn) := goodIn_app (goodIn_of _ (by decide +kernel)) ggX1_twiceArea_X1_turn
theorem dX1_twiceArea_0 : decode cX1_twiceArea 0 = .ok (.lconst 0, 1) := by decide +kernel
theorem dX1_twiceArea_1 : decode cX1_twiceArea 1 = .ok (.lstore_n 1, 1) := by decide +kernel
theorem dX1_twiceArea_2 : decode cX1_twiceArea 2 = .ok (.iconst 1, 1) := by decide +kernel
theorem dX1_twiceArea_3 : decode cX1_twiceArea 3 = .ok (.istore_n 3, 1) := by decide +kernel
theorem dX1_twiceArea_4 : decode cX1_twiceArea 4 = .ok (.iload_n 3, 1) := by decide +kernel
theorem dX1_twiceArea_5 : decode cX1_twiceArea 5 = .ok (.iconst 1, 1) := by decide +kernel
theorem dX1_twiceArea_6 : decode cX1_twiceArea 6 = .ok (.iadd, 1) := by decide +kernel
theorem dX1_twiceArea_7 : decode cX1_twiceArea 7 = .ok (.aload_n 0, 1) := by decide +kernel
theorem dX1_twiceArea_8 : decode cX1_twiceArea 8 = .ok (.getfield 29, 3) := by decide +kernel
theorem dX1_twiceArea_11 : decode cX1_twiceArea 11 = .ok (.if_icmp .ge 61, 3) := by decide +kernel
theorem dX1_twiceArea_14 : decode cX1_twiceArea 14 = .ok (.lload_n 1, 1) := by decide +kernel
theorem dX1_twiceArea_15 : decode cX1_twiceArea 15 = .ok (.aload_n 0, 1) := by decide +kernel
theorem dX1_twiceArea_16 : decode cX1_twiceArea 16 = .ok (.getfield 7, 3) := by decide +kernel
theorem dX1_twiceArea_19 : decode cX1_twiceArea 19 = .ok (.iconst 0, 1) := by decide +kernel
theorem dX1_twiceArea_20 : decode cX1_twiceArea 20 = .ok (.iaload, 1) := by decide +kernel
theorem dX1_twiceArea_21 : decode cX1_twiceArea 21 = .ok (.i2l, 1) := by decide +kernel
theorem dX1_twiceArea_22 : decode cX1_twiceArea 22 = .ok (.aload_n 0, 1) := by decide +kernel
theorem dX1_twiceArea_23 : decode cX1_twiceArea 23 = .ok (.getfield 13, 3) := by decide +kernel
theorem dX1_twiceArea_26 : decode cX1_twiceArea 26 = .ok (.iconst 0, 1) := by decide +kernel
theorem dX1_twiceArea_27 : decode cX1_twiceArea 27 = .ok (.iaload, 1) := by decide +kernel
theorem dX1_twiceArea_28 : decode cX1_twiceArea 28 = .ok (.i2l, 1) := by decide +kernel
theorem dX1_twiceArea_29 : decode cX1_twiceArea 29 = .ok (.aload_n 0, 1) := by decide +kernel
theorem dX1_twiceArea_30 : decode cX1_twiceArea 30 = .ok (.getfield 7, 3) := by decide +kernel
theorem dX1_twiceArea_33 : decode cX1_twiceArea 33 = .ok (.iload_n 3, 1) := by decide +kernel
theorem dX1_twiceArea_34 : decode cX1_twiceArea 34 = .ok (.iaload, 1) := by decide +kernel
theorem dX1_twiceArea_35 : decode cX1_twiceArea 35 = .ok (.i2l, 1) := by decide +kernel
theorem dX1_twiceArea_36 : decode cX1_twiceArea 36 = .ok (.aload_n 0, 1) := by decide +kernel
theorem dX1_twiceArea_37 : decode cX1_twiceArea 37 = .ok (.getfield 13, 3) := by decide +kernel
theorem dX1_twiceArea_40 : decode cX1_twiceArea 40 = .ok (.iload_n 3, 1) := by decide +kernel
theorem dX1_twiceArea_41 : decode cX1_twiceArea 41 = .ok (.iaload, 1) := by decide +kernel
theorem dX1_twiceArea_42 : decode cX1_twiceArea 42 = .ok (.i2l, 1) := by decide +kernel
theorem dX1_twiceArea_43 : decode cX1_twiceArea 43 = .ok (.aload_n 0, 1) := by decide +kernel
theorem dX1_twiceArea_44 : decode cX1_twiceArea 44 = .ok (.getfield 7, 3) := by decide +kernel
theorem dX1_twiceArea_47 : decode cX1_twiceArea 47 = .ok (.iload_n 3, 1) := by decide +kernel
theorem dX1_twiceArea_48 : decode cX1_twiceArea 48 = .ok (.iconst 1, 1) := by decide +kernel
theorem dX1_twiceArea_49 : decode cX1_twiceArea 49 = .ok (.iadd, 1) := by decide +kernel
theorem dX1_twiceArea_50 : decode cX1_twiceArea 50 = .ok (.iaload, 1) := by decide +kernel
theorem dX1_twiceArea_51 : decode cX1_twiceArea 51 = .ok (.i2l, 1) := by decide +kernel
theorem dX1_twiceArea_52 : decode cX1_twiceArea 52 = .ok (.aload_n 0, 1) := by decide +kernel
theorem dX1_twiceArea_53 : decode cX1_twiceArea 53 = .ok (.getfield 13, 3) := by decide +kernel
theorem dX1_twiceArea_56 : decode cX1_twiceArea 56 = .ok (.iload_n 3, 1) := by decide +kernel
theorem dX1_twiceArea_57 : decode cX1_twiceArea 57 = .ok (.iconst 1, 1) := by decide +kernel
theorem dX1_twiceArea_58 : decode cX1_twiceArea 58 = .ok (.iadd, 1) := by decide +kernel
theorem dX1_twiceArea_59 : decode cX1_twiceArea 59 = .ok (.iaload, 1) := by decide +kernel
theorem dX1_twiceArea_60 : decode cX1_twiceArea 60 = .ok (.i2l, 1) := by decide +kernel
theorem dX1_twiceArea_61 : decode cX1_twiceArea 61 = .ok (.invokestatic 32, 3) := by decide +kernel
theorem dX1_twiceArea_64 : decode cX1_twiceArea 64 = .ok (.ladd, 1) := by decide +kernel
theorem dX1_twiceArea_65 : decode cX1_twiceArea 65 = .ok (.lstore_n 1, 1) := by decide +kernel
theorem dX1_twiceArea_66 : decode cX1_twiceArea 66 = .ok (.iinc 3 1, 3) := by decide +kernel
theorem dX1_twiceArea_69 : decode cX1_twiceArea 69 = .ok (.goto (-65), 3) := by decide +kernel
theorem dX1_twiceArea_72 : decode cX1_twiceArea 72 = .ok (.lload_n 1, 1) := by decide +kernel
theorem dX1_twiceArea_73 : decode cX1_twiceArea 73 = .ok (.l2i, 1) := by decide +kernel
theorem dX1_twiceArea_74 : decode cX1_twiceArea 74 = .ok (.ireturn, 1) := by decide +kernel
set_option maxRecDepth 20000 in
theorem ggX1_farthest_X1_inRange : GoodIn wsX1_farthest wsX1_inRange := goodIn_r _ [7] (by decide +kernel) (by decide +kernel)
set_option maxRecDepth 20000 in
theorem gX1_farthest_X1_inRange : GoodIn wsX1_farthest (va_wsS RX1 36 yX1_inRange wsX1_inRange) := goodIn_app (goodIn_of _ (by decide +kernel)) ggX1_farthest_X1_inRange
theorem dX1_farthest_0 : decode cX1_farthest 0 = .ok (.aload_n 0, 1) := by decide +kernel
theorem dX1_farthest_1 : decode cX1_farthest 1 = .ok (.getfield 29, 3) := by decide +kernel
theorem dX1_farthest_4 : decode cX1_farthest 4 = .ok (.ifCond .eq 11, 3) := by decide +kernel
theorem dX1_farthest_7 : decode cX1_farthest 7 = .ok (.iload_n 1, 1) := by decide +kernel
theorem dX1_farthest_8 : decode cX1_farthest 8 = .ok (.iload_n 2, 1) := by decide +kernel
theorem dX1_farthest_9 : decode cX1_farthest 9 = .ok (.invokestatic 36, 3) := by decide +kernel
theorem dX1_farthest_12 : decode cX1_farthest 12 = .ok (.ifCond .ne 5, 3) := by decide +kernel
theorem dX1_farthest_15 : decode cX1_farthest 15 = .ok (.iconst (-1), 1) := by decide +kernel
theorem dX1_farthest_16 : decode cX1_farthest 16 = .ok (.ireturn, 1) := by decide +kernel
theorem dX1_farthest_17 : decode cX1_farthest 17 = .ok (.iconst 0, 1) := by decide +kernel
theorem dX1_farthest_18 : decode cX1_farthest 18 = .ok (.istore_n 3, 1) := by decide +kernel
theorem dX1_farthest_19 : decode cX1_farthest 19 = .ok (.iconst 1, 1) := by decide +kernel
theorem dX1_farthest_20 : decode cX1_farthest 20 = .ok (.istore 4, 2) := by decide +kernel
theorem dX1_farthest_22 : decode cX1_farthest 22 = .ok (.iload 4, 2) := by decide +kernel
theorem dX1_farthest_24 : decode cX1_farthest 24 = .ok (.aload_n 0, 1) := by decide +kernel
theorem dX1_farthest_25 : decode cX1_farthest 25 = .ok (.getfield 29, 3) := by decide +kernel
theorem dX1_farthest_28 : decode cX1_farthest 28 = .ok (.if_icmp .ge 55, 3) := by decide +kernel
theorem dX1_farthest_31 : decode cX1_farthest 31 = .ok (.aload_n 0, 1) := by decide +kernel
theorem dX1_farthest_32 : decode cX1_farthest 32 = .ok (.getfield 7, 3) := by decide +kernel
theorem dX1_farthest_35 : decode cX1_farthest 35 = .ok (.iload 4, 2) := by decide +kernel
theorem dX1_farthest_37 : decode cX1_farthest 37 = .ok (.iaload, 1) := by decide +kernel
theorem dX1_farthest_38 : decode cX1_farthest 38 = .ok (.iload_n 1, 1) := by decide +kernel
theorem dX1_farthest_39 : decode cX1_farthest 39 = .ok (.imul, 1) := by decide +kernel
theorem dX1_farthest_40 : decode cX1_farthest 40 = .ok (.aload_n 0, 1) := by decide +kernel
theorem dX1_farthest_41 : decode cX1_farthest 41 = .ok (.getfield 13, 3) := by decide +kernel
theorem dX1_farthest_44 : decode cX1_farthest 44 = .ok (.iload 4, 2) := by decide +kernel
theorem dX1_farthest_46 : decode cX1_farthest 46 = .ok (.iaload, 1) := by decide +kernel
theorem dX1_farthest_47 : decode cX1_farthest 47 = .ok (.iload_n 2, 1) := by decide +kernel
theorem dX1_farthest_48 : decode cX1_farthest 48 = .ok (.imul, 1) := by decide +kernel
theorem dX1_farthest_49 : decode cX1_farthest 49 = .ok (.iadd, 1) := by decide +kernel
theorem dX1_farthest_50 : decode cX1_farthest 50 = .ok (.aload_n 0, 1) := by decide +kernel
theorem dX1_farthest_51 : decode cX1_farthest 51 = .ok (.getfield 7, 3) := by decide +kernel
theorem dX1_farthest_54 : decode cX1_farthest 54 = .ok (.iload_n 3, 1) := by decide +kernel
theorem dX1_farthest_55 : decode cX1_farthest 55 = .ok (.iaload, 1) := by decide +kernel
theorem dX1_farthest_56 : decode cX1_farthest 56 = .ok (.iload_n 1, 1) := by decide +kernel
theorem dX1_farthest_57 : decode cX1_farthest 57 = .ok (.imul, 1) := by decide +kernel
theorem dX1_farthest_58 : decode cX1_farthest 58 = .ok (.aload_n 0, 1) := by decide +kernel
theorem dX1_farthest_59 : decode cX1_farthest 59 = .ok (.getfield 13, 3) := by decide +kernel
theorem dX1_farthest_62 : decode cX1_farthest 62 = .ok (.iload_n 3, 1) := by decide +kernel
theorem dX1_farthest_63 : decode cX1_farthest 63 = .ok (.iaload, 1) := by decide +kernel
theorem dX1_farthest_64 : decode cX1_farthest 64 = .ok (.iload_n 2, 1) := by decide +kernel
theorem dX1_farthest_65 : decode cX1_farthest 65 = .ok (.imul, 1) := by decide +kernel
theorem dX1_farthest_66 : decode cX1_farthest 66 = .ok (.iadd, 1) := by decide +kernel
theorem dX1_farthest_67 : decode cX1_farthest 67 = .ok (.if_icmp .le 8, 3) := by decide +kernel
theorem dX1_farthest_70 : decode cX1_farthest 70 = .ok (.iload 4, 2) := by decide +kernel
theorem dX1_farthest_72 : decode cX1_farthest 72 = .ok (.goto 4, 3) := by decide +kernel
theorem dX1_farthest_75 : decode cX1_farthest 75 = .ok (.iload_n 3, 1) := by decide +kernel
theorem dX1_farthest_76 : decode cX1_farthest 76 = .ok (.istore_n 3, 1) := by decide +kernel
theorem dX1_farthest_77 : decode cX1_farthest 77 = .ok (.iinc 4 1, 3) := by decide +kernel
theorem dX1_farthest_80 : decode cX1_farthest 80 = .ok (.goto (-58), 3) := by decide +kernel
theorem dX1_farthest_83 : decode cX1_farthest 83 = .ok (.iload_n 3, 1) := by decide +kernel
theorem dX1_farthest_84 : decode cX1_farthest 84 = .ok (.ireturn, 1) := by decide +kernel
set_option maxRecDepth 20000 in
theorem ggX1_tangent_X1_inRange : GoodIn wsX1_tangent wsX1_inRange := goodIn_r _ [5] (by decide +kernel) (by decide +kernel)
set_option maxRecDepth 20000 in
theorem gX1_tangent_X1_inRange : GoodIn wsX1_tangent (va_wsS RX1 36 yX1_inRange wsX1_inRange) := goodIn_app (goodIn_of _ (by decide +kernel)) ggX1_tangent_X1_inRange
set_option maxRecDepth 20000 in
theorem ggX1_tangent_X1_inside : GoodIn wsX1_tangent wsX1_inside := goodIn_r _ [9, 1, 10, 11, 2, 3, 4, 5, 12, 13, 14, 15, 16, 17, 18, 19, 20, 21, 22, 23, 24, 25, 26, 27, 28, 29] (by decide +kernel) (by decide +kernel)
set_option maxRecDepth 20000 in
theorem gX1_tangent_X1_inside : GoodIn wsX1_tangent (wsV RX1 51 RX1 yX1_inside wsX1_inside) := goodIn_app (goodIn_of _ (by decide +kernel)) ggX1_tangent_X1_inside
set_option maxRecDepth 20000 in
theorem ggX1_tangent_X1_side : GoodIn wsX1_tangent wsX1_side := goodIn_r _ [21, 1, 10, 11, 12, 13, 4, 14, 22, 23, 24, 25, 26, 27, 28, 29] (by decide +kernel) (by decide +kernel)
set_option maxRecDepth 20000 in
theorem gX1_tangent_X1_side : GoodIn wsX1_tangent (wsV RX1 44 RX1 yX1_side wsX1_side) := goodIn_app (goodIn_of _ (by decide +kernel)) ggX1_tangent_X1_side
theorem dX1_tangent_0 : decode cX1_tangent 0 = .ok (.aload_n 0, 1) := by decide +kernel
theorem dX1_tangent_1 : decode cX1_tangent 1 = .ok (.getfield 29, 3) := by decide +kernel
theorem dX1_tangent_4 : decode cX1_tangent 4 = .ok (.iconst 3, 1) := by decide +kernel
theorem dX1_tangent_5 : decode cX1_tangent 5 = .ok (.if_icmp .lt 29, 3) := by decide +kernel
theorem dX1_tangent_8 : decode cX1_tangent 8 = .ok (.iload_n 3, 1) := by decide +kernel
theorem dX1_tangent_9 : decode cX1_tangent 9 = .ok (.ifCond .lt 25, 3) := by decide +kernel
theorem dX1_tangent_12 : decode cX1_tangent 12 = .ok (.iload_n 3, 1) := by decide +kernel
theorem dX1_tangent_13 : decode cX1_tangent 13 = .ok (.iconst 1, 1) := by decide +kernel
theorem dX1_tangent_14 : decode cX1_tangent 14 = .ok (.if_icmp .gt 20, 3) := by decide +kernel
theorem dX1_tangent_17 : decode cX1_tangent 17 = .ok (.iload_n 1, 1) := by decide +kernel
theorem dX1_tangent_18 : decode cX1_tangent 18 = .ok (.iload_n 2, 1) := by decide +kernel
theorem dX1_tangent_19 : decode cX1_tangent 19 = .ok (.invokestatic 36, 3) := by decide +kernel
theorem dX1_tangent_22 : decode cX1_tangent 22 = .ok (.ifCond .eq 12, 3) := by decide +kernel
theorem dX1_tangent_25 : decode cX1_tangent 25 = .ok (.aload_n 0, 1) := by decide +kernel
theorem dX1_tangent_26 : decode cX1_tangent 26 = .ok (.iload_n 1, 1) := by decide +kernel
theorem dX1_tangent_27 : decode cX1_tangent 27 = .ok (.iload_n 2, 1) := by decide +kernel
theorem dX1_tangent_28 : decode cX1_tangent 28 = .ok (.invokevirtual 51, 3) := by decide +kernel
theorem dX1_tangent_31 : decode cX1_tangent 31 = .ok (.ifCond .le 5, 3) := by decide +kernel
theorem dX1_tangent_34 : decode cX1_tangent 34 = .ok (.iconst (-1), 1) := by decide +kernel
theorem dX1_tangent_35 : decode cX1_tangent 35 = .ok (.ireturn, 1) := by decide +kernel
theorem dX1_tangent_36 : decode cX1_tangent 36 = .ok (.iconst (-1), 1) := by decide +kernel
theorem dX1_tangent_37 : decode cX1_tangent 37 = .ok (.istore 4, 2) := by decide +kernel
theorem dX1_tangent_39 : decode cX1_tangent 39 = .ok (.iconst 0, 1) := by decide +kernel
theorem dX1_tangent_40 : decode cX1_tangent 40 = .ok (.istore 5, 2) := by decide +kernel
theorem dX1_tangent_42 : decode cX1_tangent 42 = .ok (.iload 5, 2) := by decide +kernel
theorem dX1_tangent_44 : decode cX1_tangent 44 = .ok (.aload_n 0, 1) := by decide +kernel
theorem dX1_tangent_45 : decode cX1_tangent 45 = .ok (.getfield 29, 3) := by decide +kernel
theorem dX1_tangent_48 : decode cX1_tangent 48 = .ok (.if_icmp .ge 122, 3) := by decide +kernel
theorem dX1_tangent_51 : decode cX1_tangent 51 = .ok (.iload 5, 2) := by decide +kernel
theorem dX1_tangent_53 : decode cX1_tangent 53 = .ok (.ifCond .ne 12, 3) := by decide +kernel
theorem dX1_tangent_56 : decode cX1_tangent 56 = .ok (.aload_n 0, 1) := by decide +kernel
theorem dX1_tangent_57 : decode cX1_tangent 57 = .ok (.getfield 29, 3) := by decide +kernel
theorem dX1_tangent_60 : decode cX1_tangent 60 = .ok (.iconst 1, 1) := by decide +kernel
theorem dX1_tangent_61 : decode cX1_tangent 61 = .ok (.isub, 1) := by decide +kernel
theorem dX1_tangent_62 : decode cX1_tangent 62 = .ok (.goto 7, 3) := by decide +kernel
theorem dX1_tangent_65 : decode cX1_tangent 65 = .ok (.iload 5, 2) := by decide +kernel
theorem dX1_tangent_67 : decode cX1_tangent 67 = .ok (.iconst 1, 1) := by decide +kernel
theorem dX1_tangent_68 : decode cX1_tangent 68 = .ok (.isub, 1) := by decide +kernel
theorem dX1_tangent_69 : decode cX1_tangent 69 = .ok (.istore 6, 2) := by decide +kernel
theorem dX1_tangent_71 : decode cX1_tangent 71 = .ok (.aload_n 0, 1) := by decide +kernel
theorem dX1_tangent_72 : decode cX1_tangent 72 = .ok (.iload 5, 2) := by decide +kernel
theorem dX1_tangent_74 : decode cX1_tangent 74 = .ok (.iload_n 1, 1) := by decide +kernel
theorem dX1_tangent_75 : decode cX1_tangent 75 = .ok (.iload_n 2, 1) := by decide +kernel
theorem dX1_tangent_76 : decode cX1_tangent 76 = .ok (.invokevirtual 44, 3) := by decide +kernel
theorem dX1_tangent_79 : decode cX1_tangent 79 = .ok (.lconst 0, 1) := by decide +kernel
theorem dX1_tangent_80 : decode cX1_tangent 80 = .ok (.lcmp, 1) := by decide +kernel
theorem dX1_tangent_81 : decode cX1_tangent 81 = .ok (.ifCond .ge 7, 3) := by decide +kernel
theorem dX1_tangent_84 : decode cX1_tangent 84 = .ok (.iconst 1, 1) := by decide +kernel
theorem dX1_tangent_85 : decode cX1_tangent 85 = .ok (.goto 4, 3) := by decide +kernel
theorem dX1_tangent_88 : decode cX1_tangent 88 = .ok (.iconst 0, 1) := by decide +kernel
theorem dX1_tangent_89 : decode cX1_tangent 89 = .ok (.istore 7, 2) := by decide +kernel
theorem dX1_tangent_91 : decode cX1_tangent 91 = .ok (.aload_n 0, 1) := by decide +kernel
theorem dX1_tangent_92 : decode cX1_tangent 92 = .ok (.iload 6, 2) := by decide +kernel
theorem dX1_tangent_94 : decode cX1_tangent 94 = .ok (.iload_n 1, 1) := by decide +kernel
theorem dX1_tangent_95 : decode cX1_tangent 95 = .ok (.iload_n 2, 1) := by decide +kernel
theorem dX1_tangent_96 : decode cX1_tangent 96 = .ok (.invokevirtual 44, 3) := by decide +kernel
theorem dX1_tangent_99 : decode cX1_tangent 99 = .ok (.lconst 0, 1) := by decide +kernel
theorem dX1_tangent_100 : decode cX1_tangent 100 = .ok (.lcmp, 1) := by decide +kernel
theorem dX1_tangent_101 : decode cX1_tangent 101 = .ok (.ifCond .ge 7, 3) := by decide +kernel
theorem dX1_tangent_104 : decode cX1_tangent 104 = .ok (.iconst 1, 1) := by decide +kernel
theorem dX1_tangent_105 : decode cX1_tangent 105 = .ok (.goto 4, 3) := by decide +kernel
theorem dX1_tangent_108 : decode cX1_tangent 108 = .ok (.iconst 0, 1) := by decide +kernel
theorem dX1_tangent_109 : decode cX1_tangent 109 = .ok (.istore 8, 2) := by decide +kernel
theorem dX1_tangent_111 : decode cX1_tangent 111 = .ok (.iload_n 3, 1) := by decide +kernel
theorem dX1_tangent_112 : decode cX1_tangent 112 = .ok (.ifCond .ne 21, 3) := by decide +kernel
theorem dX1_tangent_115 : decode cX1_tangent 115 = .ok (.iload 7, 2) := by decide +kernel
theorem dX1_tangent_117 : decode cX1_tangent 117 = .ok (.ifCond .eq 12, 3) := by decide +kernel
theorem dX1_tangent_120 : decode cX1_tangent 120 = .ok (.iload 8, 2) := by decide +kernel
theorem dX1_tangent_122 : decode cX1_tangent 122 = .ok (.ifCond .ne 7, 3) := by decide +kernel
theorem dX1_tangent_125 : decode cX1_tangent 125 = .ok (.iconst 1, 1) := by decide +kernel
theorem dX1_tangent_126 : decode cX1_tangent 126 = .ok (.goto 22, 3) := by decide +kernel
theorem dX1_tangent_129 : decode cX1_tangent 129 = .ok (.iconst 0, 1) := by decide +kernel
theorem dX1_tangent_130 : decode cX1_tangent 130 = .ok (.goto 18, 3) := by decide +kernel
theorem dX1_tangent_133 : decode cX1_tangent 133 = .ok (.iload 8, 2) := by decide +kernel
theorem dX1_tangent_135 : decode cX1_tangent 135 = .ok (.ifCond .eq 12, 3) := by decide +kernel
theorem dX1_tangent_138 : decode cX1_tangent 138 = .ok (.iload 7, 2) := by decide +kernel
theorem dX1_tangent_140 : decode cX1_tangent 140 = .ok (.ifCond .ne 7, 3) := by decide +kernel
theorem dX1_tangent_143 : decode cX1_tangent 143 = .ok (.iconst 1, 1) := by decide +kernel
theorem dX1_tangent_144 : decode cX1_tangent 144 = .ok (.goto 4, 3) := by decide +kernel
theorem dX1_tangent_147 : decode cX1_tangent 147 = .ok (.iconst 0, 1) := by decide +kernel
theorem dX1_tangent_148 : decode cX1_tangent 148 = .ok (.istore 9, 2) := by decide +kernel
theorem dX1_tangent_150 : decode cX1_tangent 150 = .ok (.iload 9, 2) := by decide +kernel
theorem dX1_tangent_152 : decode cX1_tangent 152 = .ok (.ifCond .eq 8, 3) := by decide +kernel
theorem dX1_tangent_155 : decode cX1_tangent 155 = .ok (.iload 5, 2) := by decide +kernel
theorem dX1_tangent_157 : decode cX1_tangent 157 = .ok (.goto 5, 3) := by decide +kernel
theorem dX1_tangent_160 : decode cX1_tangent 160 = .ok (.iload 4, 2) := by decide +kernel
theorem dX1_tangent_162 : decode cX1_tangent 162 = .ok (.istore 4, 2) := by decide +kernel
theorem dX1_tangent_164 : decode cX1_tangent 164 = .ok (.iinc 5 1, 3) := by decide +kernel
theorem dX1_tangent_167 : decode cX1_tangent 167 = .ok (.goto (-125), 3) := by decide +kernel
theorem dX1_tangent_170 : decode cX1_tangent 170 = .ok (.iload 4, 2) := by decide +kernel
theorem dX1_tangent_172 : decode cX1_tangent 172 = .ok (.ireturn, 1) := by decide +kernel
theorem dX1_diameter_0 : decode cX1_diameter 0 = .ok (.lconst 0, 1) := by decide +kernel
theorem dX1_diameter_1 : decode cX1_diameter 1 = .ok (.lstore_n 1, 1) := by decide +kernel
theorem dX1_diameter_2 : decode cX1_diameter 2 = .ok (.iconst 0, 1) := by decide +kernel
theorem dX1_diameter_3 : decode cX1_diameter 3 = .ok (.istore_n 3, 1) := by decide +kernel
theorem dX1_diameter_4 : decode cX1_diameter 4 = .ok (.iload_n 3, 1) := by decide +kernel
theorem dX1_diameter_5 : decode cX1_diameter 5 = .ok (.aload_n 0, 1) := by decide +kernel
theorem dX1_diameter_6 : decode cX1_diameter 6 = .ok (.getfield 29, 3) := by decide +kernel
theorem dX1_diameter_9 : decode cX1_diameter 9 = .ok (.if_icmp .ge 90, 3) := by decide +kernel
theorem dX1_diameter_12 : decode cX1_diameter 12 = .ok (.iconst 0, 1) := by decide +kernel
theorem dX1_diameter_13 : decode cX1_diameter 13 = .ok (.istore 4, 2) := by decide +kernel
theorem dX1_diameter_15 : decode cX1_diameter 15 = .ok (.iload 4, 2) := by decide +kernel
theorem dX1_diameter_17 : decode cX1_diameter 17 = .ok (.iload_n 3, 1) := by decide +kernel
theorem dX1_diameter_18 : decode cX1_diameter 18 = .ok (.if_icmp .ge 75, 3) := by decide +kernel
theorem dX1_diameter_21 : decode cX1_diameter 21 = .ok (.aload_n 0, 1) := by decide +kernel
theorem dX1_diameter_22 : decode cX1_diameter 22 = .ok (.getfield 7, 3) := by decide +kernel
theorem dX1_diameter_25 : decode cX1_diameter 25 = .ok (.iload_n 3, 1) := by decide +kernel
theorem dX1_diameter_26 : decode cX1_diameter 26 = .ok (.iaload, 1) := by decide +kernel
theorem dX1_diameter_27 : decode cX1_diameter 27 = .ok (.aload_n 0, 1) := by decide +kernel
theorem dX1_diameter_28 : decode cX1_diameter 28 = .ok (.getfield 7, 3) := by decide +kernel
theorem dX1_diameter_31 : decode cX1_diameter 31 = .ok (.iload 4, 2) := by decide +kernel
theorem dX1_diameter_33 : decode cX1_diameter 33 = .ok (.iaload, 1) := by decide +kernel
theorem dX1_diameter_34 : decode cX1_diameter 34 = .ok (.isub, 1) := by decide +kernel
theorem dX1_diameter_35 : decode cX1_diameter 35 = .ok (.i2l, 1) := by decide +kernel
theorem dX1_diameter_36 : decode cX1_diameter 36 = .ok (.lstore 5, 2) := by decide +kernel
theorem dX1_diameter_38 : decode cX1_diameter 38 = .ok (.aload_n 0, 1) := by decide +kernel
theorem dX1_diameter_39 : decode cX1_diameter 39 = .ok (.getfield 13, 3) := by decide +kernel
theorem dX1_diameter_42 : decode cX1_diameter 42 = .ok (.iload_n 3, 1) := by decide +kernel
theorem dX1_diameter_43 : decode cX1_diameter 43 = .ok (.iaload, 1) := by decide +kernel
theorem dX1_diameter_44 : decode cX1_diameter 44 = .ok (.aload_n 0, 1) := by decide +kernel
theorem dX1_diameter_45 : decode cX1_diameter 45 = .ok (.getfield 13, 3) := by decide +kernel
theorem dX1_diameter_48 : decode cX1_diameter 48 = .ok (.iload 4, 2) := by decide +kernel
theorem dX1_diameter_50 : decode cX1_diameter 50 = .ok (.iaload, 1) := by decide +kernel
theorem dX1_diameter_51 : decode cX1_diameter 51 = .ok (.isub, 1) := by decide +kernel
theorem dX1_diameter_52 : decode cX1_diameter 52 = .ok (.i2l, 1) := by decide +kernel
theorem dX1_diameter_53 : decode cX1_diameter 53 = .ok (.lstore 7, 2) := by decide +kernel
theorem dX1_diameter_55 : decode cX1_diameter 55 = .ok (.lload 5, 2) := by decide +kernel
theorem dX1_diameter_57 : decode cX1_diameter 57 = .ok (.lload 5, 2) := by decide +kernel
theorem dX1_diameter_59 : decode cX1_diameter 59 = .ok (.lmul, 1) := by decide +kernel
theorem dX1_diameter_60 : decode cX1_diameter 60 = .ok (.lload 7, 2) := by decide +kernel
theorem dX1_diameter_62 : decode cX1_diameter 62 = .ok (.lload 7, 2) := by decide +kernel
theorem dX1_diameter_64 : decode cX1_diameter 64 = .ok (.lmul, 1) := by decide +kernel
theorem dX1_diameter_65 : decode cX1_diameter 65 = .ok (.ladd, 1) := by decide +kernel
theorem dX1_diameter_66 : decode cX1_diameter 66 = .ok (.lload_n 1, 1) := by decide +kernel
theorem dX1_diameter_67 : decode cX1_diameter 67 = .ok (.lcmp, 1) := by decide +kernel
theorem dX1_diameter_68 : decode cX1_diameter 68 = .ok (.ifCond .le 17, 3) := by decide +kernel
theorem dX1_diameter_71 : decode cX1_diameter 71 = .ok (.lload 5, 2) := by decide +kernel
theorem dX1_diameter_73 : decode cX1_diameter 73 = .ok (.lload 5, 2) := by decide +kernel
theorem dX1_diameter_75 : decode cX1_diameter 75 = .ok (.lmul, 1) := by decide +kernel
theorem dX1_diameter_76 : decode cX1_diameter 76 = .ok (.lload 7, 2) := by decide +kernel
theorem dX1_diameter_78 : decode cX1_diameter 78 = .ok (.lload 7, 2) := by decide +kernel
theorem dX1_diameter_80 : decode cX1_diameter 80 = .ok (.lmul, 1) := by decide +kernel
theorem dX1_diameter_81 : decode cX1_diameter 81 = .ok (.ladd, 1) := by decide +kernel
theorem dX1_diameter_82 : decode cX1_diameter 82 = .ok (.goto 4, 3) := by decide +kernel
theorem dX1_diameter_85 : decode cX1_diameter 85 = .ok (.lload_n 1, 1) := by decide +kernel
theorem dX1_diameter_86 : decode cX1_diameter 86 = .ok (.lstore_n 1, 1) := by decide +kernel
theorem dX1_diameter_87 : decode cX1_diameter 87 = .ok (.iinc 4 1, 3) := by decide +kernel
theorem dX1_diameter_90 : decode cX1_diameter 90 = .ok (.goto (-75), 3) := by decide +kernel
theorem dX1_diameter_93 : decode cX1_diameter 93 = .ok (.iinc 3 1, 3) := by decide +kernel
theorem dX1_diameter_96 : decode cX1_diameter 96 = .ok (.goto (-92), 3) := by decide +kernel
theorem dX1_diameter_99 : decode cX1_diameter 99 = .ok (.lload_n 1, 1) := by decide +kernel
theorem dX1_diameter_100 : decode cX1_diameter 100 = .ok (.l2i, 1) := by decide +kernel
theorem dX1_diameter_101 : decode cX1_diameter 101 = .ok (.ireturn, 1) := by decide +kernel
theorem dX1_points_0 : decode cX1_points 0 = .ok (.aload_n 0, 1) := by decide +kernel
theorem dX1_points_1 : decode cX1_points 1 = .ok (.getfield 55, 3) := by decide +kernel
theorem dX1_points_4 : decode cX1_points 4 = .ok (.ireturn, 1) := by decide +kernel
theorem dJ9_floorMod_7cf53_0 : decode cJ9_floorMod_7cf53 0 = .ok (.iload_n 0, 1) := by decide +kernel
theorem dJ9_floorMod_7cf53_1 : decode cJ9_floorMod_7cf53 1 = .ok (.iload_n 1, 1) := by decide +kernel
theorem dJ9_floorMod_7cf53_2 : decode cJ9_floorMod_7cf53 2 = .ok (.irem, 1) := by decide +kernel
theorem dJ9_floorMod_7cf53_3 : decode cJ9_floorMod_7cf53 3 = .ok (.istore_n 2, 1) := by decide +kernel
theorem dJ9_floorMod_7cf53_4 : decode cJ9_floorMod_7cf53 4 = .ok (.iload_n 0, 1) := by decide +kernel
theorem dJ9_floorMod_7cf53_5 : decode cJ9_floorMod_7cf53 5 = .ok (.iload_n 1, 1) := by decide +kernel
theorem dJ9_floorMod_7cf53_6 : decode cJ9_floorMod_7cf53 6 = .ok (.ixor, 1) := by decide +kernel
theorem dJ9_floorMod_7cf53_7 : decode cJ9_floorMod_7cf53 7 = .ok (.ifCond .ge 11, 3) := by decide +kernel
theorem dJ9_floorMod_7cf53_10 : decode cJ9_floorMod_7cf53 10 = .ok (.iload_n 2, 1) := by decide +kernel
theorem dJ9_floorMod_7cf53_11 : decode cJ9_floorMod_7cf53 11 = .ok (.ifCond .eq 7, 3) := by decide +kernel
theorem dJ9_floorMod_7cf53_14 : decode cJ9_floorMod_7cf53 14 = .ok (.iload_n 2, 1) := by decide +kernel
theorem dJ9_floorMod_7cf53_15 : decode cJ9_floorMod_7cf53 15 = .ok (.iload_n 1, 1) := by decide +kernel
theorem dJ9_floorMod_7cf53_16 : decode cJ9_floorMod_7cf53 16 = .ok (.iadd, 1) := by decide +kernel
theorem dJ9_floorMod_7cf53_17 : decode cJ9_floorMod_7cf53 17 = .ok (.ireturn, 1) := by decide +kernel
theorem dJ9_floorMod_7cf53_18 : decode cJ9_floorMod_7cf53 18 = .ok (.iload_n 2, 1) := by decide +kernel
theorem dJ9_floorMod_7cf53_19 : decode cJ9_floorMod_7cf53 19 = .ok (.ireturn, 1) := by decide +kernel
theorem dJ9_max_7cf53_0 : decode cJ9_max_7cf53 0 = .ok (.iload_n 0, 1) := by decide +kernel
theorem dJ9_max_7cf53_1 : decode cJ9_max_7cf53 1 = .ok (.iload_n 1, 1) := by decide +kernel
theorem dJ9_max_7cf53_2 : decode cJ9_max_7cf53 2 = .ok (.if_icmp .lt 7, 3) := by decide +kernel
theorem dJ9_max_7cf53_5 : decode cJ9_max_7cf53 5 = .ok (.iload_n 0, 1) := by decide +kernel
theorem dJ9_max_7cf53_6 : decode cJ9_max_7cf53 6 = .ok (.goto 4, 3) := by decide +kernel
theorem dJ9_max_7cf53_9 : decode cJ9_max_7cf53 9 = .ok (.iload_n 1, 1) := by decide +kernel
theorem dJ9_max_7cf53_10 : decode cJ9_max_7cf53 10 = .ok (.ireturn, 1) := by decide +kernel

theorem dX0_init_0 : decode cX0_init 0 = .ok (.aload_n 0, 1) := by decide +kernel
theorem dX0_init_1 : decode cX0_init 1 = .ok (.invokespecial 1, 3) := by decide +kernel
theorem dX0_init_4 : decode cX0_init 4 = .ok (.aload_n 0, 1) := by decide +kernel
theorem dX0_init_5 : decode cX0_init 5 = .ok (.iconst 3, 1) := by decide +kernel
theorem dX0_init_6 : decode cX0_init 6 = .ok (.iload_n 1, 1) := by decide +kernel
theorem dX0_init_7 : decode cX0_init 7 = .ok (.bipush 62, 2) := by decide +kernel
theorem dX0_init_9 : decode cX0_init 9 = .ok (.invokestatic 9, 3) := by decide +kernel
theorem dX0_init_12 : decode cX0_init 12 = .ok (.iadd, 1) := by decide +kernel
theorem dX0_init_13 : decode cX0_init 13 = .ok (.putfield 15, 3) := by decide +kernel
theorem dX0_init_16 : decode cX0_init 16 = .ok (.aload_n 0, 1) := by decide +kernel
theorem dX0_init_17 : decode cX0_init 17 = .ok (.aload_n 0, 1) := by decide +kernel
theorem dX0_init_18 : decode cX0_init 18 = .ok (.getfield 15, 3) := by decide +kernel
theorem dX0_init_21 : decode cX0_init 21 = .ok (.newarray .int, 2) := by decide +kernel
theorem dX0_init_23 : decode cX0_init 23 = .ok (.putfield 19, 3) := by decide +kernel
theorem dX0_init_26 : decode cX0_init 26 = .ok (.aload_n 0, 1) := by decide +kernel
theorem dX0_init_27 : decode cX0_init 27 = .ok (.aload_n 0, 1) := by decide +kernel
theorem dX0_init_28 : decode cX0_init 28 = .ok (.getfield 15, 3) := by decide +kernel
theorem dX0_init_31 : decode cX0_init 31 = .ok (.newarray .int, 2) := by decide +kernel
theorem dX0_init_33 : decode cX0_init 33 = .ok (.putfield 23, 3) := by decide +kernel
theorem dX0_init_36 : decode cX0_init 36 = .ok (.aload_n 0, 1) := by decide +kernel
theorem dX0_init_37 : decode cX0_init 37 = .ok (.aload_n 0, 1) := by decide +kernel
theorem dX0_init_38 : decode cX0_init 38 = .ok (.getfield 15, 3) := by decide +kernel
theorem dX0_init_41 : decode cX0_init 41 = .ok (.newarray .int, 2) := by decide +kernel
theorem dX0_init_43 : decode cX0_init 43 = .ok (.putfield 26, 3) := by decide +kernel
theorem dX0_init_46 : decode cX0_init 46 = .ok (.aload_n 0, 1) := by decide +kernel
theorem dX0_init_47 : decode cX0_init 47 = .ok (.aload_n 0, 1) := by decide +kernel
theorem dX0_init_48 : decode cX0_init 48 = .ok (.getfield 15, 3) := by decide +kernel
theorem dX0_init_51 : decode cX0_init 51 = .ok (.newarray .int, 2) := by decide +kernel
theorem dX0_init_53 : decode cX0_init 53 = .ok (.putfield 29, 3) := by decide +kernel
theorem dX0_init_56 : decode cX0_init 56 = .ok (.aload_n 0, 1) := by decide +kernel
theorem dX0_init_57 : decode cX0_init 57 = .ok (.iconst 0, 1) := by decide +kernel
theorem dX0_init_58 : decode cX0_init 58 = .ok (.putfield 32, 3) := by decide +kernel
theorem dX0_init_61 : decode cX0_init 61 = .ok (.aload_n 0, 1) := by decide +kernel
theorem dX0_init_62 : decode cX0_init 62 = .ok (.iconst 0, 1) := by decide +kernel
theorem dX0_init_63 : decode cX0_init 63 = .ok (.putfield 35, 3) := by decide +kernel
theorem dX0_init_66 : decode cX0_init 66 = .ok (.return_, 1) := by decide +kernel
set_option maxRecDepth 20000 in
theorem ggX0_add_X0_inRange : GoodIn wsX0_add wsX0_inRange := goodIn_r _ [5] (by decide +kernel) (by decide +kernel)
set_option maxRecDepth 20000 in
theorem gX0_add_X0_inRange : GoodIn wsX0_add (va_wsS RX0 38 yX0_inRange wsX0_inRange) := goodIn_app (goodIn_of _ (by decide +kernel)) ggX0_add_X0_inRange
set_option maxRecDepth 20000 in
theorem ggX0_add_X0_placeOf : GoodIn wsX0_add wsX0_placeOf := goodIn_r _ [9, 10, 11, 12, 13, 4, 14, 15, 16, 17, 18, 19, 20, 21, 22, 23, 24, 25, 26, 27, 28, 29, 30, 31, 79, 80, 81, 82, 83, 84, 85] (by decide +kernel) (by decide +kernel)
set_option maxRecDepth 20000 in
theorem gX0_add_X0_placeOf : GoodIn wsX0_add (wsV RX0 42 RX0 yX0_placeOf wsX0_placeOf) := goodIn_app (goodIn_of _ (by decide +kernel)) ggX0_add_X0_placeOf
set_option maxRecDepth 20000 in
theorem ggX0_add_X0_staysInLine : GoodIn wsX0_add wsX0_staysInLine := goodIn_r _ [35, 10, 17, 18, 19, 4, 20, 15, 16, 21, 22, 23, 24, 79, 80, 81, 82, 83, 84, 85] (by decide +kernel) (by decide +kernel)
set_option maxRecDepth 20000 in
theorem gX0_add_X0_staysInLine : GoodIn wsX0_add (wsV RX0 45 RX0 yX0_staysInLine wsX0_staysInLine) := goodIn_app (goodIn_of _ (by decide +kernel)) ggX0_add_X0_staysInLine
set_option maxRecDepth 20000 in
theorem ggX0_add_X0_growLine : GoodIn wsX0_add wsX0_growLine := goodIn_r _ [39, 10, 15, 16, 40, 41, 42, 4, 43, 25, 26, 27, 79, 80, 81, 82, 83, 84, 85] (by decide +kernel) (by decide +kernel)
set_option maxRecDepth 20000 in
theorem gX0_add_X0_growLine : GoodIn wsX0_add (wsV RX0 48 RX0 yX0_growLine wsX0_growLine) := goodIn_app (goodIn_of _ (by decide +kernel)) ggX0_add_X0_growLine
set_option maxRecDepth 20000 in
theorem ggX0_add_X0_growRing : GoodIn wsX0_add wsX0_growRing := goodIn_r _ [47, 10, 48, 49, 50, 51, 4, 52, 17, 18, 19, 20, 15, 16, 21, 22, 23, 24, 53, 54, 55, 56, 57, 58, 59, 60, 61, 62, 63, 64, 65, 66, 67, 68, 69, 70, 71, 72, 73, 74, 75, 76, 77, 78, 25, 26, 27, 40, 41, 42, 43, 79, 80, 81, 82, 83, 84, 85] (by decide +kernel) (by decide +kernel)
set_option maxRecDepth 20000 in
theorem gX0_add_X0_growRing : GoodIn wsX0_add (wsV RX0 51 RX0 yX0_growRing wsX0_growRing) := goodIn_app (goodIn_of _ (by decide +kernel)) ggX0_add_X0_growRing
theorem dX0_add_0 : decode cX0_add 0 = .ok (.iload_n 1, 1) := by decide +kernel
theorem dX0_add_1 : decode cX0_add 1 = .ok (.iload_n 2, 1) := by decide +kernel
theorem dX0_add_2 : decode cX0_add 2 = .ok (.invokestatic 38, 3) := by decide +kernel
theorem dX0_add_5 : decode cX0_add 5 = .ok (.ifCond .ne 5, 3) := by decide +kernel
theorem dX0_add_8 : decode cX0_add 8 = .ok (.iconst (-1), 1) := by decide +kernel
theorem dX0_add_9 : decode cX0_add 9 = .ok (.ireturn, 1) := by decide +kernel
theorem dX0_add_10 : decode cX0_add 10 = .ok (.iconst 0, 1) := by decide +kernel
theorem dX0_add_11 : decode cX0_add 11 = .ok (.istore_n 3, 1) := by decide +kernel
theorem dX0_add_12 : decode cX0_add 12 = .ok (.aload_n 0, 1) := by decide +kernel
theorem dX0_add_13 : decode cX0_add 13 = .ok (.iload_n 1, 1) := by decide +kernel
theorem dX0_add_14 : decode cX0_add 14 = .ok (.iload_n 2, 1) := by decide +kernel
theorem dX0_add_15 : decode cX0_add 15 = .ok (.invokevirtual 42, 3) := by decide +kernel
theorem dX0_add_18 : decode cX0_add 18 = .ok (.ifCond .ne 28, 3) := by decide +kernel
theorem dX0_add_21 : decode cX0_add 21 = .ok (.aload_n 0, 1) := by decide +kernel
theorem dX0_add_22 : decode cX0_add 22 = .ok (.iload_n 1, 1) := by decide +kernel
theorem dX0_add_23 : decode cX0_add 23 = .ok (.iload_n 2, 1) := by decide +kernel
theorem dX0_add_24 : decode cX0_add 24 = .ok (.invokevirtual 45, 3) := by decide +kernel
theorem dX0_add_27 : decode cX0_add 27 = .ok (.ifCond .eq 12, 3) := by decide +kernel
theorem dX0_add_30 : decode cX0_add 30 = .ok (.aload_n 0, 1) := by decide +kernel
theorem dX0_add_31 : decode cX0_add 31 = .ok (.iload_n 1, 1) := by decide +kernel
theorem dX0_add_32 : decode cX0_add 32 = .ok (.iload_n 2, 1) := by decide +kernel
theorem dX0_add_33 : decode cX0_add 33 = .ok (.invokevirtual 48, 3) := by decide +kernel
theorem dX0_add_36 : decode cX0_add 36 = .ok (.goto 9, 3) := by decide +kernel
theorem dX0_add_39 : decode cX0_add 39 = .ok (.aload_n 0, 1) := by decide +kernel
theorem dX0_add_40 : decode cX0_add 40 = .ok (.iload_n 1, 1) := by decide +kernel
theorem dX0_add_41 : decode cX0_add 41 = .ok (.iload_n 2, 1) := by decide +kernel
theorem dX0_add_42 : decode cX0_add 42 = .ok (.invokevirtual 51, 3) := by decide +kernel
theorem dX0_add_45 : decode cX0_add 45 = .ok (.istore_n 3, 1) := by decide +kernel
theorem dX0_add_46 : decode cX0_add 46 = .ok (.iload_n 3, 1) := by decide +kernel
theorem dX0_add_47 : decode cX0_add 47 = .ok (.bipush (-2), 2) := by decide +kernel
theorem dX0_add_49 : decode cX0_add 49 = .ok (.if_icmp .eq 13, 3) := by decide +kernel
theorem dX0_add_52 : decode cX0_add 52 = .ok (.aload_n 0, 1) := by decide +kernel
theorem dX0_add_53 : decode cX0_add 53 = .ok (.dup, 1) := by decide +kernel
theorem dX0_add_54 : decode cX0_add 54 = .ok (.getfield 35, 3) := by decide +kernel
theorem dX0_add_57 : decode cX0_add 57 = .ok (.iconst 1, 1) := by decide +kernel
theorem dX0_add_58 : decode cX0_add 58 = .ok (.iadd, 1) := by decide +kernel
theorem dX0_add_59 : decode cX0_add 59 = .ok (.putfield 35, 3) := by decide +kernel
theorem dX0_add_62 : decode cX0_add 62 = .ok (.iload_n 3, 1) := by decide +kernel
theorem dX0_add_63 : decode cX0_add 63 = .ok (.ireturn, 1) := by decide +kernel
theorem dX0_size_0 : decode cX0_size 0 = .ok (.aload_n 0, 1) := by decide +kernel
theorem dX0_size_1 : decode cX0_size 1 = .ok (.getfield 32, 3) := by decide +kernel
theorem dX0_size_4 : decode cX0_size 4 = .ok (.ireturn, 1) := by decide +kernel
set_option maxRecDepth 20000 in
theorem ggX0_xOf_X0_isCorner : GoodIn wsX0_xOf wsX0_isCorner := goodIn_r _ [6, 7, 8, 9, 10, 11, 12, 13, 14] (by decide +kernel) (by decide +kernel)
set_option maxRecDepth 20000 in
theorem gX0_xOf_X0_isCorner : GoodIn wsX0_xOf (wsV RX0 54 RX0 yX0_isCorner wsX0_isCorner) := goodIn_app (goodIn_of _ (by decide +kernel)) ggX0_xOf_X0_isCorner
theorem dX0_xOf_0 : decode cX0_xOf 0 = .ok (.aload_n 0, 1) := by decide +kernel
theorem dX0_xOf_1 : decode cX0_xOf 1 = .ok (.iload_n 1, 1) := by decide +kernel
theorem dX0_xOf_2 : decode cX0_xOf 2 = .ok (.invokevirtual 54, 3) := by decide +kernel
theorem dX0_xOf_5 : decode cX0_xOf 5 = .ok (.ifCond .eq 12, 3) := by decide +kernel
theorem dX0_xOf_8 : decode cX0_xOf 8 = .ok (.aload_n 0, 1) := by decide +kernel
theorem dX0_xOf_9 : decode cX0_xOf 9 = .ok (.getfield 19, 3) := by decide +kernel
theorem dX0_xOf_12 : decode cX0_xOf 12 = .ok (.iload_n 1, 1) := by decide +kernel
theorem dX0_xOf_13 : decode cX0_xOf 13 = .ok (.iaload, 1) := by decide +kernel
theorem dX0_xOf_14 : decode cX0_xOf 14 = .ok (.goto 4, 3) := by decide +kernel
theorem dX0_xOf_17 : decode cX0_xOf 17 = .ok (.iconst 0, 1) := by decide +kernel
theorem dX0_xOf_18 : decode cX0_xOf 18 = .ok (.ireturn, 1) := by decide +kernel
set_option maxRecDepth 20000 in
theorem ggX0_yOf_X0_isCorner : GoodIn wsX0_yOf wsX0_isCorner := goodIn_r _ [6, 7, 8, 9, 10, 11, 12, 13, 14] (by decide +kernel) (by decide +kernel)
set_option maxRecDepth 20000 in
theorem gX0_yOf_X0_isCorner : GoodIn wsX0_yOf (wsV RX0 54 RX0 yX0_isCorner wsX0_isCorner) := goodIn_app (goodIn_of _ (by decide +kernel)) ggX0_yOf_X0_isCorner
theorem dX0_yOf_0 : decode cX0_yOf 0 = .ok (.aload_n 0, 1) := by decide +kernel
theorem dX0_yOf_1 : decode cX0_yOf 1 = .ok (.iload_n 1, 1) := by decide +kernel
theorem dX0_yOf_2 : decode cX0_yOf 2 = .ok (.invokevirtual 54, 3) := by decide +kernel
theorem dX0_yOf_5 : decode cX0_yOf 5 = .ok (.ifCond .eq 12, 3) := by decide +kernel
theorem dX0_yOf_8 : decode cX0_yOf 8 = .ok (.aload_n 0, 1) := by decide +kernel
theorem dX0_yOf_9 : decode cX0_yOf 9 = .ok (.getfield 23, 3) := by decide +kernel
theorem dX0_yOf_12 : decode cX0_yOf 12 = .ok (.iload_n 1, 1) := by decide +kernel
theorem dX0_yOf_13 : decode cX0_yOf 13 = .ok (.iaload, 1) := by decide +kernel
theorem dX0_yOf_14 : decode cX0_yOf 14 = .ok (.goto 4, 3) := by decide +kernel
theorem dX0_yOf_17 : decode cX0_yOf 17 = .ok (.iconst 0, 1) := by decide +kernel
theorem dX0_yOf_18 : decode cX0_yOf 18 = .ok (.ireturn, 1) := by decide +kernel
set_option maxRecDepth 20000 in
theorem ggX0_inside_X0_inRange : GoodIn wsX0_inside wsX0_inRange := goodIn_r _ [4] (by decide +kernel) (by decide +kernel)
set_option maxRecDepth 20000 in
theorem gX0_inside_X0_inRange : GoodIn wsX0_inside (va_wsS RX0 38 yX0_inRange wsX0_inRange) := goodIn_app (goodIn_of _ (by decide +kernel)) ggX0_inside_X0_inRange
set_option maxRecDepth 20000 in
theorem ggX0_inside_X0_placeOf : GoodIn wsX0_inside wsX0_placeOf := goodIn_r _ [8, 9, 10, 11, 12, 3, 13, 14, 15, 16, 17, 18, 19, 20, 21, 22, 23, 24, 25, 26, 27, 28, 29, 30, 31, 32, 33, 34, 35, 36, 37] (by decide +kernel) (by decide +kernel)
set_option maxRecDepth 20000 in
theorem gX0_inside_X0_placeOf : GoodIn wsX0_inside (wsV RX0 42 RX0 yX0_placeOf wsX0_placeOf) := goodIn_app (goodIn_of _ (by decide +kernel)) ggX0_inside_X0_placeOf
theorem dX0_inside_0 : decode cX0_inside 0 = .ok (.iload_n 1, 1) := by decide +kernel
theorem dX0_inside_1 : decode cX0_inside 1 = .ok (.iload_n 2, 1) := by decide +kernel
theorem dX0_inside_2 : decode cX0_inside 2 = .ok (.invokestatic 38, 3) := by decide +kernel
theorem dX0_inside_5 : decode cX0_inside 5 = .ok (.ifCond .eq 12, 3) := by decide +kernel
theorem dX0_inside_8 : decode cX0_inside 8 = .ok (.aload_n 0, 1) := by decide +kernel
theorem dX0_inside_9 : decode cX0_inside 9 = .ok (.iload_n 1, 1) := by decide +kernel
theorem dX0_inside_10 : decode cX0_inside 10 = .ok (.iload_n 2, 1) := by decide +kernel
theorem dX0_inside_11 : decode cX0_inside 11 = .ok (.invokevirtual 42, 3) := by decide +kernel
theorem dX0_inside_14 : decode cX0_inside 14 = .ok (.goto 4, 3) := by decide +kernel
theorem dX0_inside_17 : decode cX0_inside 17 = .ok (.iconst 0, 1) := by decide +kernel
theorem dX0_inside_18 : decode cX0_inside 18 = .ok (.ireturn, 1) := by decide +kernel
set_option maxRecDepth 20000 in
theorem ggX0_twiceArea_X0_turn : GoodIn wsX0_twiceArea wsX0_turn := goodIn_r _ [8, 2, 3, 9, 10, 11, 7, 12, 1, 13, 14, 15, 16, 17, 18, 19] (by decide +kernel) (by decide +kernel)
set_option maxRecDepth 20000 in
theorem gX0_twiceArea_X0_turn : GoodIn wsX0_twiceArea (wsV RX0 58 RX0 yX0_turn wsX0_turn) := goodIn_app (goodIn_of _ (by decide +kernel)) ggX0_twiceArea_X0_turn
theorem dX0_twiceArea_0 : decode cX0_twiceArea 0 = .ok (.iconst 0, 1) := by decide +kernel
theorem dX0_twiceArea_1 : decode cX0_twiceArea 1 = .ok (.istore_n 1, 1) := by decide +kernel
theorem dX0_twiceArea_2 : decode cX0_twiceArea 2 = .ok (.iconst 1, 1) := by decide +kernel
theorem dX0_twiceArea_3 : decode cX0_twiceArea 3 = .ok (.istore_n 2, 1) := by decide +kernel
theorem dX0_twiceArea_4 : decode cX0_twiceArea 4 = .ok (.iload_n 2, 1) := by decide +kernel
theorem dX0_twiceArea_5 : decode cX0_twiceArea 5 = .ok (.aload_n 0, 1) := by decide +kernel
theorem dX0_twiceArea_6 : decode cX0_twiceArea 6 = .ok (.getfield 32, 3) := by decide +kernel
theorem dX0_twiceArea_9 : decode cX0_twiceArea 9 = .ok (.if_icmp .ge 29, 3) := by decide +kernel
theorem dX0_twiceArea_12 : decode cX0_twiceArea 12 = .ok (.iload_n 1, 1) := by decide +kernel
theorem dX0_twiceArea_13 : decode cX0_twiceArea 13 = .ok (.aload_n 0, 1) := by decide +kernel
theorem dX0_twiceArea_14 : decode cX0_twiceArea 14 = .ok (.iload_n 2, 1) := by decide +kernel
theorem dX0_twiceArea_15 : decode cX0_twiceArea 15 = .ok (.aload_n 0, 1) := by decide +kernel
theorem dX0_twiceArea_16 : decode cX0_twiceArea 16 = .ok (.getfield 19, 3) := by decide +kernel
theorem dX0_twiceArea_19 : decode cX0_twiceArea 19 = .ok (.iconst 0, 1) := by decide +kernel
theorem dX0_twiceArea_20 : decode cX0_twiceArea 20 = .ok (.iaload, 1) := by decide +kernel
theorem dX0_twiceArea_21 : decode cX0_twiceArea 21 = .ok (.aload_n 0, 1) := by decide +kernel
theorem dX0_twiceArea_22 : decode cX0_twiceArea 22 = .ok (.getfield 23, 3) := by decide +kernel
theorem dX0_twiceArea_25 : decode cX0_twiceArea 25 = .ok (.iconst 0, 1) := by decide +kernel
theorem dX0_twiceArea_26 : decode cX0_twiceArea 26 = .ok (.iaload, 1) := by decide +kernel
theorem dX0_twiceArea_27 : decode cX0_twiceArea 27 = .ok (.invokevirtual 58, 3) := by decide +kernel
theorem dX0_twiceArea_30 : decode cX0_twiceArea 30 = .ok (.iadd, 1) := by decide +kernel
theorem dX0_twiceArea_31 : decode cX0_twiceArea 31 = .ok (.istore_n 1, 1) := by decide +kernel
theorem dX0_twiceArea_32 : decode cX0_twiceArea 32 = .ok (.iinc 2 1, 3) := by decide +kernel
theorem dX0_twiceArea_35 : decode cX0_twiceArea 35 = .ok (.goto (-31), 3) := by decide +kernel
theorem dX0_twiceArea_38 : decode cX0_twiceArea 38 = .ok (.iload_n 1, 1) := by decide +kernel
theorem dX0_twiceArea_39 : decode cX0_twiceArea 39 = .ok (.ireturn, 1) := by decide +kernel
set_option maxRecDepth 20000 in
theorem ggX0_farthest_X0_inRange : GoodIn wsX0_farthest wsX0_inRange := goodIn_r _ [5] (by decide +kernel) (by decide +kernel)
set_option maxRecDepth 20000 in
theorem gX0_farthest_X0_inRange : GoodIn wsX0_farthest (va_wsS RX0 38 yX0_inRange wsX0_inRange) := goodIn_app (goodIn_of _ (by decide +kernel)) ggX0_farthest_X0_inRange
set_option maxRecDepth 20000 in
theorem ggX0_farthest_X0_reach : GoodIn wsX0_farthest wsX0_reach := goodIn_r _ [9, 10, 11, 12, 13, 14, 15, 16, 17, 18] (by decide +kernel) (by decide +kernel)
set_option maxRecDepth 20000 in
theorem gX0_farthest_X0_reach : GoodIn wsX0_farthest (wsV RX0 62 RX0 yX0_reach wsX0_reach) := goodIn_app (goodIn_of _ (by decide +kernel)) ggX0_farthest_X0_reach
theorem dX0_farthest_0 : decode cX0_farthest 0 = .ok (.aload_n 0, 1) := by decide +kernel
theorem dX0_farthest_1 : decode cX0_farthest 1 = .ok (.getfield 32, 3) := by decide +kernel
theorem dX0_farthest_4 : decode cX0_farthest 4 = .ok (.ifCond .eq 11, 3) := by decide +kernel
theorem dX0_farthest_7 : decode cX0_farthest 7 = .ok (.iload_n 1, 1) := by decide +kernel
theorem dX0_farthest_8 : decode cX0_farthest 8 = .ok (.iload_n 2, 1) := by decide +kernel
theorem dX0_farthest_9 : decode cX0_farthest 9 = .ok (.invokestatic 38, 3) := by decide +kernel
theorem dX0_farthest_12 : decode cX0_farthest 12 = .ok (.ifCond .ne 5, 3) := by decide +kernel
theorem dX0_farthest_15 : decode cX0_farthest 15 = .ok (.iconst (-1), 1) := by decide +kernel
theorem dX0_farthest_16 : decode cX0_farthest 16 = .ok (.ireturn, 1) := by decide +kernel
theorem dX0_farthest_17 : decode cX0_farthest 17 = .ok (.iconst 0, 1) := by decide +kernel
theorem dX0_farthest_18 : decode cX0_farthest 18 = .ok (.istore_n 3, 1) := by decide +kernel
theorem dX0_farthest_19 : decode cX0_farthest 19 = .ok (.iconst 1, 1) := by decide +kernel
theorem dX0_farthest_20 : decode cX0_farthest 20 = .ok (.istore 4, 2) := by decide +kernel
theorem dX0_farthest_22 : decode cX0_farthest 22 = .ok (.iload 4, 2) := by decide +kernel
theorem dX0_farthest_24 : decode cX0_farthest 24 = .ok (.aload_n 0, 1) := by decide +kernel
theorem dX0_farthest_25 : decode cX0_farthest 25 = .ok (.getfield 32, 3) := by decide +kernel
theorem dX0_farthest_28 : decode cX0_farthest 28 = .ok (.if_icmp .ge 30, 3) := by decide +kernel
theorem dX0_farthest_31 : decode cX0_farthest 31 = .ok (.aload_n 0, 1) := by decide +kernel
theorem dX0_farthest_32 : decode cX0_farthest 32 = .ok (.iload 4, 2) := by decide +kernel
theorem dX0_farthest_34 : decode cX0_farthest 34 = .ok (.iload_n 1, 1) := by decide +kernel
theorem dX0_farthest_35 : decode cX0_farthest 35 = .ok (.iload_n 2, 1) := by decide +kernel
theorem dX0_farthest_36 : decode cX0_farthest 36 = .ok (.invokevirtual 62, 3) := by decide +kernel
theorem dX0_farthest_39 : decode cX0_farthest 39 = .ok (.aload_n 0, 1) := by decide +kernel
theorem dX0_farthest_40 : decode cX0_farthest 40 = .ok (.iload_n 3, 1) := by decide +kernel
theorem dX0_farthest_41 : decode cX0_farthest 41 = .ok (.iload_n 1, 1) := by decide +kernel
theorem dX0_farthest_42 : decode cX0_farthest 42 = .ok (.iload_n 2, 1) := by decide +kernel
theorem dX0_farthest_43 : decode cX0_farthest 43 = .ok (.invokevirtual 62, 3) := by decide +kernel
theorem dX0_farthest_46 : decode cX0_farthest 46 = .ok (.if_icmp .le 6, 3) := by decide +kernel
theorem dX0_farthest_49 : decode cX0_farthest 49 = .ok (.iload 4, 2) := by decide +kernel
theorem dX0_farthest_51 : decode cX0_farthest 51 = .ok (.istore_n 3, 1) := by decide +kernel
theorem dX0_farthest_52 : decode cX0_farthest 52 = .ok (.iinc 4 1, 3) := by decide +kernel
theorem dX0_farthest_55 : decode cX0_farthest 55 = .ok (.goto (-33), 3) := by decide +kernel
theorem dX0_farthest_58 : decode cX0_farthest 58 = .ok (.iload_n 3, 1) := by decide +kernel
theorem dX0_farthest_59 : decode cX0_farthest 59 = .ok (.ireturn, 1) := by decide +kernel
set_option maxRecDepth 20000 in
theorem ggX0_tangent_X0_inRange : GoodIn wsX0_tangent wsX0_inRange := goodIn_r _ [5] (by decide +kernel) (by decide +kernel)
set_option maxRecDepth 20000 in
theorem gX0_tangent_X0_inRange : GoodIn wsX0_tangent (va_wsS RX0 38 yX0_inRange wsX0_inRange) := goodIn_app (goodIn_of _ (by decide +kernel)) ggX0_tangent_X0_inRange
set_option maxRecDepth 20000 in
theorem ggX0_tangent_X0_placeOf : GoodIn wsX0_tangent wsX0_placeOf := goodIn_r _ [9, 1, 10, 11, 12, 4, 13, 14, 15, 16, 17, 18, 19, 20, 21, 22, 23, 24, 25, 26, 27, 28, 29, 30, 43, 44, 45, 46, 47, 48, 49] (by decide +kernel) (by decide +kernel)
set_option maxRecDepth 20000 in
theorem gX0_tangent_X0_placeOf : GoodIn wsX0_tangent (wsV RX0 42 RX0 yX0_placeOf wsX0_placeOf) := goodIn_app (goodIn_of _ (by decide +kernel)) ggX0_tangent_X0_placeOf
set_option maxRecDepth 20000 in
theorem ggX0_tangent_X0_firstSeen : GoodIn wsX0_tangent wsX0_firstSeen := goodIn_r _ [34, 1, 16, 17, 18, 4, 19, 14, 15, 20, 21, 22, 23, 35, 36, 37, 38, 43, 44, 45, 46, 47, 48, 49] (by decide +kernel) (by decide +kernel)
set_option maxRecDepth 20000 in
theorem gX0_tangent_X0_firstSeen : GoodIn wsX0_tangent (wsV RX0 65 RX0 yX0_firstSeen wsX0_firstSeen) := goodIn_app (goodIn_of _ (by decide +kernel)) ggX0_tangent_X0_firstSeen
set_option maxRecDepth 20000 in
theorem ggX0_tangent_X0_lastSeen : GoodIn wsX0_tangent wsX0_lastSeen := goodIn_r _ [42, 1, 16, 17, 18, 4, 19, 14, 15, 20, 21, 22, 23, 35, 36, 37, 38, 43, 44, 45, 46, 47, 48, 49] (by decide +kernel) (by decide +kernel)
set_option maxRecDepth 20000 in
theorem gX0_tangent_X0_lastSeen : GoodIn wsX0_tangent (wsV RX0 68 RX0 yX0_lastSeen wsX0_lastSeen) := goodIn_app (goodIn_of _ (by decide +kernel)) ggX0_tangent_X0_lastSeen
theorem dX0_tangent_0 : decode cX0_tangent 0 = .ok (.aload_n 0, 1) := by decide +kernel
theorem dX0_tangent_1 : decode cX0_tangent 1 = .ok (.getfield 32, 3) := by decide +kernel
theorem dX0_tangent_4 : decode cX0_tangent 4 = .ok (.iconst 3, 1) := by decide +kernel
theorem dX0_tangent_5 : decode cX0_tangent 5 = .ok (.if_icmp .lt 20, 3) := by decide +kernel
theorem dX0_tangent_8 : decode cX0_tangent 8 = .ok (.iload_n 1, 1) := by decide +kernel
theorem dX0_tangent_9 : decode cX0_tangent 9 = .ok (.iload_n 2, 1) := by decide +kernel
theorem dX0_tangent_10 : decode cX0_tangent 10 = .ok (.invokestatic 38, 3) := by decide +kernel
theorem dX0_tangent_13 : decode cX0_tangent 13 = .ok (.ifCond .eq 12, 3) := by decide +kernel
theorem dX0_tangent_16 : decode cX0_tangent 16 = .ok (.aload_n 0, 1) := by decide +kernel
theorem dX0_tangent_17 : decode cX0_tangent 17 = .ok (.iload_n 1, 1) := by decide +kernel
theorem dX0_tangent_18 : decode cX0_tangent 18 = .ok (.iload_n 2, 1) := by decide +kernel
theorem dX0_tangent_19 : decode cX0_tangent 19 = .ok (.invokevirtual 42, 3) := by decide +kernel
theorem dX0_tangent_22 : decode cX0_tangent 22 = .ok (.ifCond .eq 5, 3) := by decide +kernel
theorem dX0_tangent_25 : decode cX0_tangent 25 = .ok (.iconst (-1), 1) := by decide +kernel
theorem dX0_tangent_26 : decode cX0_tangent 26 = .ok (.ireturn, 1) := by decide +kernel
theorem dX0_tangent_27 : decode cX0_tangent 27 = .ok (.iload_n 3, 1) := by decide +kernel
theorem dX0_tangent_28 : decode cX0_tangent 28 = .ok (.ifCond .ne 11, 3) := by decide +kernel
theorem dX0_tangent_31 : decode cX0_tangent 31 = .ok (.aload_n 0, 1) := by decide +kernel
theorem dX0_tangent_32 : decode cX0_tangent 32 = .ok (.iload_n 1, 1) := by decide +kernel
theorem dX0_tangent_33 : decode cX0_tangent 33 = .ok (.iload_n 2, 1) := by decide +kernel
theorem dX0_tangent_34 : decode cX0_tangent 34 = .ok (.iconst 0, 1) := by decide +kernel
theorem dX0_tangent_35 : decode cX0_tangent 35 = .ok (.invokevirtual 65, 3) := by decide +kernel
theorem dX0_tangent_38 : decode cX0_tangent 38 = .ok (.ireturn, 1) := by decide +kernel
theorem dX0_tangent_39 : decode cX0_tangent 39 = .ok (.iload_n 3, 1) := by decide +kernel
theorem dX0_tangent_40 : decode cX0_tangent 40 = .ok (.iconst 1, 1) := by decide +kernel
theorem dX0_tangent_41 : decode cX0_tangent 41 = .ok (.if_icmp .ne 13, 3) := by decide +kernel
theorem dX0_tangent_44 : decode cX0_tangent 44 = .ok (.aload_n 0, 1) := by decide +kernel
theorem dX0_tangent_45 : decode cX0_tangent 45 = .ok (.iload_n 1, 1) := by decide +kernel
theorem dX0_tangent_46 : decode cX0_tangent 46 = .ok (.iload_n 2, 1) := by decide +kernel
theorem dX0_tangent_47 : decode cX0_tangent 47 = .ok (.iconst 0, 1) := by decide +kernel
theorem dX0_tangent_48 : decode cX0_tangent 48 = .ok (.invokevirtual 68, 3) := by decide +kernel
theorem dX0_tangent_51 : decode cX0_tangent 51 = .ok (.goto 4, 3) := by decide +kernel
theorem dX0_tangent_54 : decode cX0_tangent 54 = .ok (.iconst (-1), 1) := by decide +kernel
theorem dX0_tangent_55 : decode cX0_tangent 55 = .ok (.ireturn, 1) := by decide +kernel
set_option maxRecDepth 20000 in
theorem ggX0_diameter_X0_squaredDistance : GoodIn wsX0_diameter wsX0_squaredDistance := goodIn_r _ [10, 11, 12, 13, 14, 15, 16, 17, 18, 19] (by decide +kernel) (by decide +kernel)
set_option maxRecDepth 20000 in
theorem gX0_diameter_X0_squaredDistance : GoodIn wsX0_diameter (wsV RX0 71 RX0 yX0_squaredDistance wsX0_squaredDistance) := goodIn_app (goodIn_of _ (by decide +kernel)) ggX0_diameter_X0_squaredDistance
theorem dX0_diameter_0 : decode cX0_diameter 0 = .ok (.iconst 0, 1) := by decide +kernel
theorem dX0_diameter_1 : decode cX0_diameter 1 = .ok (.istore_n 1, 1) := by decide +kernel
theorem dX0_diameter_2 : decode cX0_diameter 2 = .ok (.iconst 0, 1) := by decide +kernel
theorem dX0_diameter_3 : decode cX0_diameter 3 = .ok (.istore_n 2, 1) := by decide +kernel
theorem dX0_diameter_4 : decode cX0_diameter 4 = .ok (.iload_n 2, 1) := by decide +kernel
theorem dX0_diameter_5 : decode cX0_diameter 5 = .ok (.aload_n 0, 1) := by decide +kernel
theorem dX0_diameter_6 : decode cX0_diameter 6 = .ok (.getfield 32, 3) := by decide +kernel
theorem dX0_diameter_9 : decode cX0_diameter 9 = .ok (.if_icmp .ge 33, 3) := by decide +kernel
theorem dX0_diameter_12 : decode cX0_diameter 12 = .ok (.iconst 0, 1) := by decide +kernel
theorem dX0_diameter_13 : decode cX0_diameter 13 = .ok (.istore_n 3, 1) := by decide +kernel
theorem dX0_diameter_14 : decode cX0_diameter 14 = .ok (.iload_n 3, 1) := by decide +kernel
theorem dX0_diameter_15 : decode cX0_diameter 15 = .ok (.iload_n 2, 1) := by decide +kernel
theorem dX0_diameter_16 : decode cX0_diameter 16 = .ok (.if_icmp .ge 20, 3) := by decide +kernel
theorem dX0_diameter_19 : decode cX0_diameter 19 = .ok (.iload_n 1, 1) := by decide +kernel
theorem dX0_diameter_20 : decode cX0_diameter 20 = .ok (.aload_n 0, 1) := by decide +kernel
theorem dX0_diameter_21 : decode cX0_diameter 21 = .ok (.iload_n 2, 1) := by decide +kernel
theorem dX0_diameter_22 : decode cX0_diameter 22 = .ok (.iload_n 3, 1) := by decide +kernel
theorem dX0_diameter_23 : decode cX0_diameter 23 = .ok (.invokevirtual 71, 3) := by decide +kernel
theorem dX0_diameter_26 : decode cX0_diameter 26 = .ok (.invokestatic 74, 3) := by decide +kernel
theorem dX0_diameter_29 : decode cX0_diameter 29 = .ok (.istore_n 1, 1) := by decide +kernel
theorem dX0_diameter_30 : decode cX0_diameter 30 = .ok (.iinc 3 1, 3) := by decide +kernel
theorem dX0_diameter_33 : decode cX0_diameter 33 = .ok (.goto (-19), 3) := by decide +kernel
theorem dX0_diameter_36 : decode cX0_diameter 36 = .ok (.iinc 2 1, 3) := by decide +kernel
theorem dX0_diameter_39 : decode cX0_diameter 39 = .ok (.goto (-35), 3) := by decide +kernel
theorem dX0_diameter_42 : decode cX0_diameter 42 = .ok (.iload_n 1, 1) := by decide +kernel
theorem dX0_diameter_43 : decode cX0_diameter 43 = .ok (.ireturn, 1) := by decide +kernel
theorem dX0_points_0 : decode cX0_points 0 = .ok (.aload_n 0, 1) := by decide +kernel
theorem dX0_points_1 : decode cX0_points 1 = .ok (.getfield 35, 3) := by decide +kernel
theorem dX0_points_4 : decode cX0_points 4 = .ok (.ireturn, 1) := by decide +kernel
theorem dX0_inRange_0 : decode cX0_inRange 0 = .ok (.sipush (-16383), 3) := by decide +kernel
theorem dX0_inRange_3 : decode cX0_inRange 3 = .ok (.iload_n 0, 1) := by decide +kernel
theorem dX0_inRange_4 : decode cX0_inRange 4 = .ok (.if_icmp .gt 28, 3) := by decide +kernel
theorem dX0_inRange_7 : decode cX0_inRange 7 = .ok (.iload_n 0, 1) := by decide +kernel
theorem dX0_inRange_8 : decode cX0_inRange 8 = .ok (.sipush 16383, 3) := by decide +kernel
theorem dX0_inRange_11 : decode cX0_inRange 11 = .ok (.if_icmp .gt 21, 3) := by decide +kernel
theorem dX0_inRange_14 : decode cX0_inRange 14 = .ok (.sipush (-16383), 3) := by decide +kernel
theorem dX0_inRange_17 : decode cX0_inRange 17 = .ok (.iload_n 1, 1) := by decide +kernel
theorem dX0_inRange_18 : decode cX0_inRange 18 = .ok (.if_icmp .gt 14, 3) := by decide +kernel
theorem dX0_inRange_21 : decode cX0_inRange 21 = .ok (.iload_n 1, 1) := by decide +kernel
theorem dX0_inRange_22 : decode cX0_inRange 22 = .ok (.sipush 16383, 3) := by decide +kernel
theorem dX0_inRange_25 : decode cX0_inRange 25 = .ok (.if_icmp .gt 7, 3) := by decide +kernel
theorem dX0_inRange_28 : decode cX0_inRange 28 = .ok (.iconst 1, 1) := by decide +kernel
theorem dX0_inRange_29 : decode cX0_inRange 29 = .ok (.goto 4, 3) := by decide +kernel
theorem dX0_inRange_32 : decode cX0_inRange 32 = .ok (.iconst 0, 1) := by decide +kernel
theorem dX0_inRange_33 : decode cX0_inRange 33 = .ok (.ireturn, 1) := by decide +kernel
theorem dX0_comesBefore_0 : decode cX0_comesBefore 0 = .ok (.iload_n 0, 1) := by decide +kernel
theorem dX0_comesBefore_1 : decode cX0_comesBefore 1 = .ok (.iload_n 2, 1) := by decide +kernel
theorem dX0_comesBefore_2 : decode cX0_comesBefore 2 = .ok (.if_icmp .lt 13, 3) := by decide +kernel
theorem dX0_comesBefore_5 : decode cX0_comesBefore 5 = .ok (.iload_n 0, 1) := by decide +kernel
theorem dX0_comesBefore_6 : decode cX0_comesBefore 6 = .ok (.iload_n 2, 1) := by decide +kernel
theorem dX0_comesBefore_7 : decode cX0_comesBefore 7 = .ok (.if_icmp .ne 12, 3) := by decide +kernel
theorem dX0_comesBefore_10 : decode cX0_comesBefore 10 = .ok (.iload_n 1, 1) := by decide +kernel
theorem dX0_comesBefore_11 : decode cX0_comesBefore 11 = .ok (.iload_n 3, 1) := by decide +kernel
theorem dX0_comesBefore_12 : decode cX0_comesBefore 12 = .ok (.if_icmp .ge 7, 3) := by decide +kernel
theorem dX0_comesBefore_15 : decode cX0_comesBefore 15 = .ok (.iconst 1, 1) := by decide +kernel
theorem dX0_comesBefore_16 : decode cX0_comesBefore 16 = .ok (.goto 4, 3) := by decide +kernel
theorem dX0_comesBefore_19 : decode cX0_comesBefore 19 = .ok (.iconst 0, 1) := by decide +kernel
theorem dX0_comesBefore_20 : decode cX0_comesBefore 20 = .ok (.ireturn, 1) := by decide +kernel
theorem dX0_isCorner_0 : decode cX0_isCorner 0 = .ok (.iconst 0, 1) := by decide +kernel
theorem dX0_isCorner_1 : decode cX0_isCorner 1 = .ok (.iload_n 1, 1) := by decide +kernel
theorem dX0_isCorner_2 : decode cX0_isCorner 2 = .ok (.if_icmp .gt 15, 3) := by decide +kernel
theorem dX0_isCorner_5 : decode cX0_isCorner 5 = .ok (.iload_n 1, 1) := by decide +kernel
theorem dX0_isCorner_6 : decode cX0_isCorner 6 = .ok (.aload_n 0, 1) := by decide +kernel
theorem dX0_isCorner_7 : decode cX0_isCorner 7 = .ok (.getfield 32, 3) := by decide +kernel
theorem dX0_isCorner_10 : decode cX0_isCorner 10 = .ok (.if_icmp .ge 7, 3) := by decide +kernel
theorem dX0_isCorner_13 : decode cX0_isCorner 13 = .ok (.iconst 1, 1) := by decide +kernel
theorem dX0_isCorner_14 : decode cX0_isCorner 14 = .ok (.goto 4, 3) := by decide +kernel
theorem dX0_isCorner_17 : decode cX0_isCorner 17 = .ok (.iconst 0, 1) := by decide +kernel
theorem dX0_isCorner_18 : decode cX0_isCorner 18 = .ok (.ireturn, 1) := by decide +kernel
theorem dX0_next_0 : decode cX0_next 0 = .ok (.iload_n 1, 1) := by decide +kernel
theorem dX0_next_1 : decode cX0_next 1 = .ok (.iconst 1, 1) := by decide +kernel
theorem dX0_next_2 : decode cX0_next 2 = .ok (.iadd, 1) := by decide +kernel
theorem dX0_next_3 : decode cX0_next 3 = .ok (.aload_n 0, 1) := by decide +kernel
theorem dX0_next_4 : decode cX0_next 4 = .ok (.getfield 32, 3) := by decide +kernel
theorem dX0_next_7 : decode cX0_next 7 = .ok (.if_icmp .ge 9, 3) := by decide +kernel
theorem dX0_next_10 : decode cX0_next 10 = .ok (.iload_n 1, 1) := by decide +kernel
theorem dX0_next_11 : decode cX0_next 11 = .ok (.iconst 1, 1) := by decide +kernel
theorem dX0_next_12 : decode cX0_next 12 = .ok (.iadd, 1) := by decide +kernel
theorem dX0_next_13 : decode cX0_next 13 = .ok (.goto 4, 3) := by decide +kernel
theorem dX0_next_16 : decode cX0_next 16 = .ok (.iconst 0, 1) := by decide +kernel
theorem dX0_next_17 : decode cX0_next 17 = .ok (.ireturn, 1) := by decide +kernel
theorem dX0_previous_0 : decode cX0_previous 0 = .ok (.iload_n 1, 1) := by decide +kernel
theorem dX0_previous_1 : decode cX0_previous 1 = .ok (.ifCond .le 9, 3) := by decide +kernel
theorem dX0_previous_4 : decode cX0_previous 4 = .ok (.iload_n 1, 1) := by decide +kernel
theorem dX0_previous_5 : decode cX0_previous 5 = .ok (.iconst 1, 1) := by decide +kernel
theorem dX0_previous_6 : decode cX0_previous 6 = .ok (.isub, 1) := by decide +kernel
theorem dX0_previous_7 : decode cX0_previous 7 = .ok (.goto 9, 3) := by decide +kernel
theorem dX0_previous_10 : decode cX0_previous 10 = .ok (.aload_n 0, 1) := by decide +kernel
theorem dX0_previous_11 : decode cX0_previous 11 = .ok (.getfield 32, 3) := by decide +kernel
theorem dX0_previous_14 : decode cX0_previous 14 = .ok (.iconst 1, 1) := by decide +kernel
theorem dX0_previous_15 : decode cX0_previous 15 = .ok (.isub, 1) := by decide +kernel
theorem dX0_previous_16 : decode cX0_previous 16 = .ok (.ireturn, 1) := by decide +kernel
set_option maxRecDepth 20000 in
theorem ggX0_turn_X0_next : GoodIn wsX0_turn wsX0_next := goodIn_r _ [7, 8, 9, 10, 11, 12, 13, 14, 15] (by decide +kernel) (by decide +kernel)
set_option maxRecDepth 20000 in
theorem gX0_turn_X0_next : GoodIn wsX0_turn (wsV RX0 77 RX0 yX0_next wsX0_next) := goodIn_app (goodIn_of _ (by decide +kernel)) ggX0_turn_X0_next
theorem dX0_turn_0 : decode cX0_turn 0 = .ok (.aload_n 0, 1) := by decide +kernel
theorem dX0_turn_1 : decode cX0_turn 1 = .ok (.iload_n 1, 1) := by decide +kernel
theorem dX0_turn_2 : decode cX0_turn 2 = .ok (.invokevirtual 77, 3) := by decide +kernel
theorem dX0_turn_5 : decode cX0_turn 5 = .ok (.istore 4, 2) := by decide +kernel
theorem dX0_turn_7 : decode cX0_turn 7 = .ok (.aload_n 0, 1) := by decide +kernel
theorem dX0_turn_8 : decode cX0_turn 8 = .ok (.getfield 19, 3) := by decide +kernel
theorem dX0_turn_11 : decode cX0_turn 11 = .ok (.iload 4, 2) := by decide +kernel
theorem dX0_turn_13 : decode cX0_turn 13 = .ok (.iaload, 1) := by decide +kernel
theorem dX0_turn_14 : decode cX0_turn 14 = .ok (.aload_n 0, 1) := by decide +kernel
theorem dX0_turn_15 : decode cX0_turn 15 = .ok (.getfield 19, 3) := by decide +kernel
theorem dX0_turn_18 : decode cX0_turn 18 = .ok (.iload_n 1, 1) := by decide +kernel
theorem dX0_turn_19 : decode cX0_turn 19 = .ok (.iaload, 1) := by decide +kernel
theorem dX0_turn_20 : decode cX0_turn 20 = .ok (.isub, 1) := by decide +kernel
theorem dX0_turn_21 : decode cX0_turn 21 = .ok (.istore 5, 2) := by decide +kernel
theorem dX0_turn_23 : decode cX0_turn 23 = .ok (.aload_n 0, 1) := by decide +kernel
theorem dX0_turn_24 : decode cX0_turn 24 = .ok (.getfield 23, 3) := by decide +kernel
theorem dX0_turn_27 : decode cX0_turn 27 = .ok (.iload 4, 2) := by decide +kernel
theorem dX0_turn_29 : decode cX0_turn 29 = .ok (.iaload, 1) := by decide +kernel
theorem dX0_turn_30 : decode cX0_turn 30 = .ok (.aload_n 0, 1) := by decide +kernel
theorem dX0_turn_31 : decode cX0_turn 31 = .ok (.getfield 23, 3) := by decide +kernel
theorem dX0_turn_34 : decode cX0_turn 34 = .ok (.iload_n 1, 1) := by decide +kernel
theorem dX0_turn_35 : decode cX0_turn 35 = .ok (.iaload, 1) := by decide +kernel
theorem dX0_turn_36 : decode cX0_turn 36 = .ok (.isub, 1) := by decide +kernel
theorem dX0_turn_37 : decode cX0_turn 37 = .ok (.istore 6, 2) := by decide +kernel
theorem dX0_turn_39 : decode cX0_turn 39 = .ok (.iload 5, 2) := by decide +kernel
theorem dX0_turn_41 : decode cX0_turn 41 = .ok (.iload_n 3, 1) := by decide +kernel
theorem dX0_turn_42 : decode cX0_turn 42 = .ok (.aload_n 0, 1) := by decide +kernel
theorem dX0_turn_43 : decode cX0_turn 43 = .ok (.getfield 23, 3) := by decide +kernel
theorem dX0_turn_46 : decode cX0_turn 46 = .ok (.iload_n 1, 1) := by decide +kernel
theorem dX0_turn_47 : decode cX0_turn 47 = .ok (.iaload, 1) := by decide +kernel
theorem dX0_turn_48 : decode cX0_turn 48 = .ok (.isub, 1) := by decide +kernel
theorem dX0_turn_49 : decode cX0_turn 49 = .ok (.imul, 1) := by decide +kernel
theorem dX0_turn_50 : decode cX0_turn 50 = .ok (.iload 6, 2) := by decide +kernel
theorem dX0_turn_52 : decode cX0_turn 52 = .ok (.iload_n 2, 1) := by decide +kernel
theorem dX0_turn_53 : decode cX0_turn 53 = .ok (.aload_n 0, 1) := by decide +kernel
theorem dX0_turn_54 : decode cX0_turn 54 = .ok (.getfield 19, 3) := by decide +kernel
theorem dX0_turn_57 : decode cX0_turn 57 = .ok (.iload_n 1, 1) := by decide +kernel
theorem dX0_turn_58 : decode cX0_turn 58 = .ok (.iaload, 1) := by decide +kernel
theorem dX0_turn_59 : decode cX0_turn 59 = .ok (.isub, 1) := by decide +kernel
theorem dX0_turn_60 : decode cX0_turn 60 = .ok (.imul, 1) := by decide +kernel
theorem dX0_turn_61 : decode cX0_turn 61 = .ok (.isub, 1) := by decide +kernel
theorem dX0_turn_62 : decode cX0_turn 62 = .ok (.ireturn, 1) := by decide +kernel
theorem dX0_reach_0 : decode cX0_reach 0 = .ok (.iload_n 2, 1) := by decide +kernel
theorem dX0_reach_1 : decode cX0_reach 1 = .ok (.aload_n 0, 1) := by decide +kernel
theorem dX0_reach_2 : decode cX0_reach 2 = .ok (.getfield 19, 3) := by decide +kernel
theorem dX0_reach_5 : decode cX0_reach 5 = .ok (.iload_n 1, 1) := by decide +kernel
theorem dX0_reach_6 : decode cX0_reach 6 = .ok (.iaload, 1) := by decide +kernel
theorem dX0_reach_7 : decode cX0_reach 7 = .ok (.imul, 1) := by decide +kernel
theorem dX0_reach_8 : decode cX0_reach 8 = .ok (.iload_n 3, 1) := by decide +kernel
theorem dX0_reach_9 : decode cX0_reach 9 = .ok (.aload_n 0, 1) := by decide +kernel
theorem dX0_reach_10 : decode cX0_reach 10 = .ok (.getfield 23, 3) := by decide +kernel
theorem dX0_reach_13 : decode cX0_reach 13 = .ok (.iload_n 1, 1) := by decide +kernel
theorem dX0_reach_14 : decode cX0_reach 14 = .ok (.iaload, 1) := by decide +kernel
theorem dX0_reach_15 : decode cX0_reach 15 = .ok (.imul, 1) := by decide +kernel
theorem dX0_reach_16 : decode cX0_reach 16 = .ok (.iadd, 1) := by decide +kernel
theorem dX0_reach_17 : decode cX0_reach 17 = .ok (.ireturn, 1) := by decide +kernel
theorem dX0_squaredDistance_0 : decode cX0_squaredDistance 0 = .ok (.aload_n 0, 1) := by decide +kernel
theorem dX0_squaredDistance_1 : decode cX0_squaredDistance 1 = .ok (.getfield 19, 3) := by decide +kernel
theorem dX0_squaredDistance_4 : decode cX0_squaredDistance 4 = .ok (.iload_n 1, 1) := by decide +kernel
theorem dX0_squaredDistance_5 : decode cX0_squaredDistance 5 = .ok (.iaload, 1) := by decide +kernel
theorem dX0_squaredDistance_6 : decode cX0_squaredDistance 6 = .ok (.aload_n 0, 1) := by decide +kernel
theorem dX0_squaredDistance_7 : decode cX0_squaredDistance 7 = .ok (.getfield 19, 3) := by decide +kernel
theorem dX0_squaredDistance_10 : decode cX0_squaredDistance 10 = .ok (.iload_n 2, 1) := by decide +kernel
theorem dX0_squaredDistance_11 : decode cX0_squaredDistance 11 = .ok (.iaload, 1) := by decide +kernel
theorem dX0_squaredDistance_12 : decode cX0_squaredDistance 12 = .ok (.isub, 1) := by decide +kernel
theorem dX0_squaredDistance_13 : decode cX0_squaredDistance 13 = .ok (.istore_n 3, 1) := by decide +kernel
theorem dX0_squaredDistance_14 : decode cX0_squaredDistance 14 = .ok (.aload_n 0, 1) := by decide +kernel
theorem dX0_squaredDistance_15 : decode cX0_squaredDistance 15 = .ok (.getfield 23, 3) := by decide +kernel
theorem dX0_squaredDistance_18 : decode cX0_squaredDistance 18 = .ok (.iload_n 1, 1) := by decide +kernel
theorem dX0_squaredDistance_19 : decode cX0_squaredDistance 19 = .ok (.iaload, 1) := by decide +kernel
theorem dX0_squaredDistance_20 : decode cX0_squaredDistance 20 = .ok (.aload_n 0, 1) := by decide +kernel
theorem dX0_squaredDistance_21 : decode cX0_squaredDistance 21 = .ok (.getfield 23, 3) := by decide +kernel
theorem dX0_squaredDistance_24 : decode cX0_squaredDistance 24 = .ok (.iload_n 2, 1) := by decide +kernel
theorem dX0_squaredDistance_25 : decode cX0_squaredDistance 25 = .ok (.iaload, 1) := by decide +kernel
theorem dX0_squaredDistance_26 : decode cX0_squaredDistance 26 = .ok (.isub, 1) := by decide +kernel
theorem dX0_squaredDistance_27 : decode cX0_squaredDistance 27 = .ok (.istore 4, 2) := by decide +kernel
theorem dX0_squaredDistance_29 : decode cX0_squaredDistance 29 = .ok (.iload_n 3, 1) := by decide +kernel
theorem dX0_squaredDistance_30 : decode cX0_squaredDistance 30 = .ok (.iload_n 3, 1) := by decide +kernel
theorem dX0_squaredDistance_31 : decode cX0_squaredDistance 31 = .ok (.imul, 1) := by decide +kernel
theorem dX0_squaredDistance_32 : decode cX0_squaredDistance 32 = .ok (.iload 4, 2) := by decide +kernel
theorem dX0_squaredDistance_34 : decode cX0_squaredDistance 34 = .ok (.iload 4, 2) := by decide +kernel
theorem dX0_squaredDistance_36 : decode cX0_squaredDistance 36 = .ok (.imul, 1) := by decide +kernel
theorem dX0_squaredDistance_37 : decode cX0_squaredDistance 37 = .ok (.iadd, 1) := by decide +kernel
theorem dX0_squaredDistance_38 : decode cX0_squaredDistance 38 = .ok (.ireturn, 1) := by decide +kernel
set_option maxRecDepth 20000 in
theorem ggX0_placeOf_X0_placeInLine : GoodIn wsX0_placeOf wsX0_placeInLine := goodIn_r _ [6, 1, 7, 8, 9, 10, 11, 5, 12, 13, 14, 15, 16, 17, 18, 19, 24, 25, 26, 27, 28, 29, 30] (by decide +kernel) (by decide +kernel)
set_option maxRecDepth 20000 in
theorem gX0_placeOf_X0_placeInLine : GoodIn wsX0_placeOf (wsV RX0 81 RX0 yX0_placeInLine wsX0_placeInLine) := goodIn_app (goodIn_of _ (by decide +kernel)) ggX0_placeOf_X0_placeInLine
set_option maxRecDepth 20000 in
theorem ggX0_placeOf_X0_placeInRing : GoodIn wsX0_placeOf wsX0_placeInRing := goodIn_r _ [23, 1, 9, 10, 11, 5, 12, 7, 8, 13, 14, 15, 16, 24, 25, 26, 27, 28, 29, 30] (by decide +kernel) (by decide +kernel)
set_option maxRecDepth 20000 in
theorem gX0_placeOf_X0_placeInRing : GoodIn wsX0_placeOf (wsV RX0 84 RX0 yX0_placeInRing wsX0_placeInRing) := goodIn_app (goodIn_of _ (by decide +kernel)) ggX0_placeOf_X0_placeInRing
theorem dX0_placeOf_0 : decode cX0_placeOf 0 = .ok (.aload_n 0, 1) := by decide +kernel
theorem dX0_placeOf_1 : decode cX0_placeOf 1 = .ok (.getfield 32, 3) := by decide +kernel
theorem dX0_placeOf_4 : decode cX0_placeOf 4 = .ok (.ifCond .ne 5, 3) := by decide +kernel
theorem dX0_placeOf_7 : decode cX0_placeOf 7 = .ok (.iconst 0, 1) := by decide +kernel
theorem dX0_placeOf_8 : decode cX0_placeOf 8 = .ok (.ireturn, 1) := by decide +kernel
theorem dX0_placeOf_9 : decode cX0_placeOf 9 = .ok (.aload_n 0, 1) := by decide +kernel
theorem dX0_placeOf_10 : decode cX0_placeOf 10 = .ok (.getfield 32, 3) := by decide +kernel
theorem dX0_placeOf_13 : decode cX0_placeOf 13 = .ok (.iconst 3, 1) := by decide +kernel
theorem dX0_placeOf_14 : decode cX0_placeOf 14 = .ok (.if_icmp .ge 12, 3) := by decide +kernel
theorem dX0_placeOf_17 : decode cX0_placeOf 17 = .ok (.aload_n 0, 1) := by decide +kernel
theorem dX0_placeOf_18 : decode cX0_placeOf 18 = .ok (.iload_n 1, 1) := by decide +kernel
theorem dX0_placeOf_19 : decode cX0_placeOf 19 = .ok (.iload_n 2, 1) := by decide +kernel
theorem dX0_placeOf_20 : decode cX0_placeOf 20 = .ok (.invokevirtual 81, 3) := by decide +kernel
theorem dX0_placeOf_23 : decode cX0_placeOf 23 = .ok (.goto 9, 3) := by decide +kernel
theorem dX0_placeOf_26 : decode cX0_placeOf 26 = .ok (.aload_n 0, 1) := by decide +kernel
theorem dX0_placeOf_27 : decode cX0_placeOf 27 = .ok (.iload_n 1, 1) := by decide +kernel
theorem dX0_placeOf_28 : decode cX0_placeOf 28 = .ok (.iload_n 2, 1) := by decide +kernel
theorem dX0_placeOf_29 : decode cX0_placeOf 29 = .ok (.invokevirtual 84, 3) := by decide +kernel
theorem dX0_placeOf_32 : decode cX0_placeOf 32 = .ok (.ireturn, 1) := by decide +kernel
set_option maxRecDepth 20000 in
theorem ggX0_placeInLine_X0_turn : GoodIn wsX0_placeInLine wsX0_turn := goodIn_r _ [8, 2, 3, 9, 10, 11, 7, 12, 1, 16, 17, 18, 19, 20, 21, 22] (by decide +kernel) (by decide +kernel)
set_option maxRecDepth 20000 in
theorem gX0_placeInLine_X0_turn : GoodIn wsX0_placeInLine (wsV RX0 58 RX0 yX0_turn wsX0_turn) := goodIn_app (goodIn_of _ (by decide +kernel)) ggX0_placeInLine_X0_turn
set_option maxRecDepth 20000 in
theorem ggX0_placeInLine_X0_comesBefore : GoodIn wsX0_placeInLine wsX0_comesBefore := goodIn_r _ [15] (by decide +kernel) (by decide +kernel)
set_option maxRecDepth 20000 in
theorem gX0_placeInLine_X0_comesBefore : GoodIn wsX0_placeInLine (va_wsS RX0 87 yX0_comesBefore wsX0_comesBefore) := goodIn_app (goodIn_of _ (by decide +kernel)) ggX0_placeInLine_X0_comesBefore
theorem dX0_placeInLine_0 : decode cX0_placeInLine 0 = .ok (.aload_n 0, 1) := by decide +kernel
theorem dX0_placeInLine_1 : decode cX0_placeInLine 1 = .ok (.getfield 32, 3) := by decide +kernel
theorem dX0_placeInLine_4 : decode cX0_placeInLine 4 = .ok (.iconst 1, 1) := by decide +kernel
theorem dX0_placeInLine_5 : decode cX0_placeInLine 5 = .ok (.isub, 1) := by decide +kernel
theorem dX0_placeInLine_6 : decode cX0_placeInLine 6 = .ok (.istore_n 3, 1) := by decide +kernel
theorem dX0_placeInLine_7 : decode cX0_placeInLine 7 = .ok (.aload_n 0, 1) := by decide +kernel
theorem dX0_placeInLine_8 : decode cX0_placeInLine 8 = .ok (.iconst 0, 1) := by decide +kernel
theorem dX0_placeInLine_9 : decode cX0_placeInLine 9 = .ok (.iload_n 1, 1) := by decide +kernel
theorem dX0_placeInLine_10 : decode cX0_placeInLine 10 = .ok (.iload_n 2, 1) := by decide +kernel
theorem dX0_placeInLine_11 : decode cX0_placeInLine 11 = .ok (.invokevirtual 58, 3) := by decide +kernel
theorem dX0_placeInLine_14 : decode cX0_placeInLine 14 = .ok (.ifCond .ne 47, 3) := by decide +kernel
theorem dX0_placeInLine_17 : decode cX0_placeInLine 17 = .ok (.iload_n 1, 1) := by decide +kernel
theorem dX0_placeInLine_18 : decode cX0_placeInLine 18 = .ok (.iload_n 2, 1) := by decide +kernel
theorem dX0_placeInLine_19 : decode cX0_placeInLine 19 = .ok (.aload_n 0, 1) := by decide +kernel
theorem dX0_placeInLine_20 : decode cX0_placeInLine 20 = .ok (.getfield 19, 3) := by decide +kernel
theorem dX0_placeInLine_23 : decode cX0_placeInLine 23 = .ok (.iconst 0, 1) := by decide +kernel
theorem dX0_placeInLine_24 : decode cX0_placeInLine 24 = .ok (.iaload, 1) := by decide +kernel
theorem dX0_placeInLine_25 : decode cX0_placeInLine 25 = .ok (.aload_n 0, 1) := by decide +kernel
theorem dX0_placeInLine_26 : decode cX0_placeInLine 26 = .ok (.getfield 23, 3) := by decide +kernel
theorem dX0_placeInLine_29 : decode cX0_placeInLine 29 = .ok (.iconst 0, 1) := by decide +kernel
theorem dX0_placeInLine_30 : decode cX0_placeInLine 30 = .ok (.iaload, 1) := by decide +kernel
theorem dX0_placeInLine_31 : decode cX0_placeInLine 31 = .ok (.invokestatic 87, 3) := by decide +kernel
theorem dX0_placeInLine_34 : decode cX0_placeInLine 34 = .ok (.ifCond .ne 27, 3) := by decide +kernel
theorem dX0_placeInLine_37 : decode cX0_placeInLine 37 = .ok (.aload_n 0, 1) := by decide +kernel
theorem dX0_placeInLine_38 : decode cX0_placeInLine 38 = .ok (.getfield 19, 3) := by decide +kernel
theorem dX0_placeInLine_41 : decode cX0_placeInLine 41 = .ok (.iload_n 3, 1) := by decide +kernel
theorem dX0_placeInLine_42 : decode cX0_placeInLine 42 = .ok (.iaload, 1) := by decide +kernel
theorem dX0_placeInLine_43 : decode cX0_placeInLine 43 = .ok (.aload_n 0, 1) := by decide +kernel
theorem dX0_placeInLine_44 : decode cX0_placeInLine 44 = .ok (.getfield 23, 3) := by decide +kernel
theorem dX0_placeInLine_47 : decode cX0_placeInLine 47 = .ok (.iload_n 3, 1) := by decide +kernel
theorem dX0_placeInLine_48 : decode cX0_placeInLine 48 = .ok (.iaload, 1) := by decide +kernel
theorem dX0_placeInLine_49 : decode cX0_placeInLine 49 = .ok (.iload_n 1, 1) := by decide +kernel
theorem dX0_placeInLine_50 : decode cX0_placeInLine 50 = .ok (.iload_n 2, 1) := by decide +kernel
theorem dX0_placeInLine_51 : decode cX0_placeInLine 51 = .ok (.invokestatic 87, 3) := by decide +kernel
theorem dX0_placeInLine_54 : decode cX0_placeInLine 54 = .ok (.ifCond .ne 7, 3) := by decide +kernel
theorem dX0_placeInLine_57 : decode cX0_placeInLine 57 = .ok (.iconst 1, 1) := by decide +kernel
theorem dX0_placeInLine_58 : decode cX0_placeInLine 58 = .ok (.goto 4, 3) := by decide +kernel
theorem dX0_placeInLine_61 : decode cX0_placeInLine 61 = .ok (.iconst 0, 1) := by decide +kernel
theorem dX0_placeInLine_62 : decode cX0_placeInLine 62 = .ok (.istore 4, 2) := by decide +kernel
theorem dX0_placeInLine_64 : decode cX0_placeInLine 64 = .ok (.iload 4, 2) := by decide +kernel
theorem dX0_placeInLine_66 : decode cX0_placeInLine 66 = .ok (.ifCond .eq 7, 3) := by decide +kernel
theorem dX0_placeInLine_69 : decode cX0_placeInLine 69 = .ok (.iconst 1, 1) := by decide +kernel
theorem dX0_placeInLine_70 : decode cX0_placeInLine 70 = .ok (.goto 4, 3) := by decide +kernel
theorem dX0_placeInLine_73 : decode cX0_placeInLine 73 = .ok (.iconst 0, 1) := by decide +kernel
theorem dX0_placeInLine_74 : decode cX0_placeInLine 74 = .ok (.ireturn, 1) := by decide +kernel
set_option maxRecDepth 20000 in
theorem ggX0_placeInRing_X0_turn : GoodIn wsX0_placeInRing wsX0_turn := goodIn_r _ [6, 7, 8, 9, 10, 11, 5, 12, 1, 13, 14, 15, 16, 17, 18, 19] (by decide +kernel) (by decide +kernel)
set_option maxRecDepth 20000 in
theorem gX0_placeInRing_X0_turn : GoodIn wsX0_placeInRing (wsV RX0 58 RX0 yX0_turn wsX0_turn) := goodIn_app (goodIn_of _ (by decide +kernel)) ggX0_placeInRing_X0_turn
theorem dX0_placeInRing_0 : decode cX0_placeInRing 0 = .ok (.iconst 2, 1) := by decide +kernel
theorem dX0_placeInRing_1 : decode cX0_placeInRing 1 = .ok (.istore_n 3, 1) := by decide +kernel
theorem dX0_placeInRing_2 : decode cX0_placeInRing 2 = .ok (.iconst 0, 1) := by decide +kernel
theorem dX0_placeInRing_3 : decode cX0_placeInRing 3 = .ok (.istore 4, 2) := by decide +kernel
theorem dX0_placeInRing_5 : decode cX0_placeInRing 5 = .ok (.iload 4, 2) := by decide +kernel
theorem dX0_placeInRing_7 : decode cX0_placeInRing 7 = .ok (.aload_n 0, 1) := by decide +kernel
theorem dX0_placeInRing_8 : decode cX0_placeInRing 8 = .ok (.getfield 32, 3) := by decide +kernel
theorem dX0_placeInRing_11 : decode cX0_placeInRing 11 = .ok (.if_icmp .ge 33, 3) := by decide +kernel
theorem dX0_placeInRing_14 : decode cX0_placeInRing 14 = .ok (.aload_n 0, 1) := by decide +kernel
theorem dX0_placeInRing_15 : decode cX0_placeInRing 15 = .ok (.iload 4, 2) := by decide +kernel
theorem dX0_placeInRing_17 : decode cX0_placeInRing 17 = .ok (.iload_n 1, 1) := by decide +kernel
theorem dX0_placeInRing_18 : decode cX0_placeInRing 18 = .ok (.iload_n 2, 1) := by decide +kernel
theorem dX0_placeInRing_19 : decode cX0_placeInRing 19 = .ok (.invokevirtual 58, 3) := by decide +kernel
theorem dX0_placeInRing_22 : decode cX0_placeInRing 22 = .ok (.istore 5, 2) := by decide +kernel
theorem dX0_placeInRing_24 : decode cX0_placeInRing 24 = .ok (.iload 5, 2) := by decide +kernel
theorem dX0_placeInRing_26 : decode cX0_placeInRing 26 = .ok (.ifCond .ge 5, 3) := by decide +kernel
theorem dX0_placeInRing_29 : decode cX0_placeInRing 29 = .ok (.iconst 0, 1) := by decide +kernel
theorem dX0_placeInRing_30 : decode cX0_placeInRing 30 = .ok (.ireturn, 1) := by decide +kernel
theorem dX0_placeInRing_31 : decode cX0_placeInRing 31 = .ok (.iload 5, 2) := by decide +kernel
theorem dX0_placeInRing_33 : decode cX0_placeInRing 33 = .ok (.ifCond .ne 5, 3) := by decide +kernel
theorem dX0_placeInRing_36 : decode cX0_placeInRing 36 = .ok (.iconst 1, 1) := by decide +kernel
theorem dX0_placeInRing_37 : decode cX0_placeInRing 37 = .ok (.istore_n 3, 1) := by decide +kernel
theorem dX0_placeInRing_38 : decode cX0_placeInRing 38 = .ok (.iinc 4 1, 3) := by decide +kernel
theorem dX0_placeInRing_41 : decode cX0_placeInRing 41 = .ok (.goto (-36), 3) := by decide +kernel
theorem dX0_placeInRing_44 : decode cX0_placeInRing 44 = .ok (.iload_n 3, 1) := by decide +kernel
theorem dX0_placeInRing_45 : decode cX0_placeInRing 45 = .ok (.ireturn, 1) := by decide +kernel
set_option maxRecDepth 20000 in
theorem ggX0_staysInLine_X0_turn : GoodIn wsX0_staysInLine wsX0_turn := goodIn_r _ [6, 7, 8, 9, 10, 11, 5, 12, 1, 13, 14, 15, 16, 17, 18, 19] (by decide +kernel) (by decide +kernel)
set_option maxRecDepth 20000 in
theorem gX0_staysInLine_X0_turn : GoodIn wsX0_staysInLine (wsV RX0 58 RX0 yX0_turn wsX0_turn) := goodIn_app (goodIn_of _ (by decide +kernel)) ggX0_staysInLine_X0_turn
theorem dX0_staysInLine_0 : decode cX0_staysInLine 0 = .ok (.aload_n 0, 1) := by decide +kernel
theorem dX0_staysInLine_1 : decode cX0_staysInLine 1 = .ok (.getfield 32, 3) := by decide +kernel
theorem dX0_staysInLine_4 : decode cX0_staysInLine 4 = .ok (.iconst 2, 1) := by decide +kernel
theorem dX0_staysInLine_5 : decode cX0_staysInLine 5 = .ok (.if_icmp .lt 21, 3) := by decide +kernel
theorem dX0_staysInLine_8 : decode cX0_staysInLine 8 = .ok (.aload_n 0, 1) := by decide +kernel
theorem dX0_staysInLine_9 : decode cX0_staysInLine 9 = .ok (.getfield 32, 3) := by decide +kernel
theorem dX0_staysInLine_12 : decode cX0_staysInLine 12 = .ok (.iconst 2, 1) := by decide +kernel
theorem dX0_staysInLine_13 : decode cX0_staysInLine 13 = .ok (.if_icmp .ne 17, 3) := by decide +kernel
theorem dX0_staysInLine_16 : decode cX0_staysInLine 16 = .ok (.aload_n 0, 1) := by decide +kernel
theorem dX0_staysInLine_17 : decode cX0_staysInLine 17 = .ok (.iconst 0, 1) := by decide +kernel
theorem dX0_staysInLine_18 : decode cX0_staysInLine 18 = .ok (.iload_n 1, 1) := by decide +kernel
theorem dX0_staysInLine_19 : decode cX0_staysInLine 19 = .ok (.iload_n 2, 1) := by decide +kernel
theorem dX0_staysInLine_20 : decode cX0_staysInLine 20 = .ok (.invokevirtual 58, 3) := by decide +kernel
theorem dX0_staysInLine_23 : decode cX0_staysInLine 23 = .ok (.ifCond .ne 7, 3) := by decide +kernel
theorem dX0_staysInLine_26 : decode cX0_staysInLine 26 = .ok (.iconst 1, 1) := by decide +kernel
theorem dX0_staysInLine_27 : decode cX0_staysInLine 27 = .ok (.goto 4, 3) := by decide +kernel
theorem dX0_staysInLine_30 : decode cX0_staysInLine 30 = .ok (.iconst 0, 1) := by decide +kernel
theorem dX0_staysInLine_31 : decode cX0_staysInLine 31 = .ok (.ireturn, 1) := by decide +kernel
set_option maxRecDepth 20000 in
theorem ggX0_growLine_X0_setCorner : GoodIn wsX0_growLine wsX0_setCorner := goodIn_r _ [8, 2, 3, 12, 13, 14, 15, 16, 17, 18] (by decide +kernel) (by decide +kernel)
set_option maxRecDepth 20000 in
theorem gX0_growLine_X0_setCorner : GoodIn wsX0_growLine (wsV RX0 91 RX0 yX0_setCorner wsX0_setCorner) := goodIn_app (goodIn_of _ (by decide +kernel)) ggX0_growLine_X0_setCorner
set_option maxRecDepth 20000 in
theorem ggX0_growLine_X0_comesBefore : GoodIn wsX0_growLine wsX0_comesBefore := goodIn_r _ [11] (by decide +kernel) (by decide +kernel)
set_option maxRecDepth 20000 in
theorem gX0_growLine_X0_comesBefore : GoodIn wsX0_growLine (va_wsS RX0 87 yX0_comesBefore wsX0_comesBefore) := goodIn_app (goodIn_of _ (by decide +kernel)) ggX0_growLine_X0_comesBefore
theorem dX0_growLine_0 : decode cX0_growLine 0 = .ok (.aload_n 0, 1) := by decide +kernel
theorem dX0_growLine_1 : decode cX0_growLine 1 = .ok (.getfield 32, 3) := by decide +kernel
theorem dX0_growLine_4 : decode cX0_growLine 4 = .ok (.ifCond .ne 17, 3) := by decide +kernel
theorem dX0_growLine_7 : decode cX0_growLine 7 = .ok (.aload_n 0, 1) := by decide +kernel
theorem dX0_growLine_8 : decode cX0_growLine 8 = .ok (.iconst 0, 1) := by decide +kernel
theorem dX0_growLine_9 : decode cX0_growLine 9 = .ok (.iload_n 1, 1) := by decide +kernel
theorem dX0_growLine_10 : decode cX0_growLine 10 = .ok (.iload_n 2, 1) := by decide +kernel
theorem dX0_growLine_11 : decode cX0_growLine 11 = .ok (.invokevirtual 91, 3) := by decide +kernel
theorem dX0_growLine_14 : decode cX0_growLine 14 = .ok (.aload_n 0, 1) := by decide +kernel
theorem dX0_growLine_15 : decode cX0_growLine 15 = .ok (.iconst 1, 1) := by decide +kernel
theorem dX0_growLine_16 : decode cX0_growLine 16 = .ok (.putfield 32, 3) := by decide +kernel
theorem dX0_growLine_19 : decode cX0_growLine 19 = .ok (.iconst 1, 1) := by decide +kernel
theorem dX0_growLine_20 : decode cX0_growLine 20 = .ok (.ireturn, 1) := by decide +kernel
theorem dX0_growLine_21 : decode cX0_growLine 21 = .ok (.aload_n 0, 1) := by decide +kernel
theorem dX0_growLine_22 : decode cX0_growLine 22 = .ok (.getfield 32, 3) := by decide +kernel
theorem dX0_growLine_25 : decode cX0_growLine 25 = .ok (.iconst 1, 1) := by decide +kernel
theorem dX0_growLine_26 : decode cX0_growLine 26 = .ok (.isub, 1) := by decide +kernel
theorem dX0_growLine_27 : decode cX0_growLine 27 = .ok (.istore_n 3, 1) := by decide +kernel
theorem dX0_growLine_28 : decode cX0_growLine 28 = .ok (.iload_n 1, 1) := by decide +kernel
theorem dX0_growLine_29 : decode cX0_growLine 29 = .ok (.iload_n 2, 1) := by decide +kernel
theorem dX0_growLine_30 : decode cX0_growLine 30 = .ok (.aload_n 0, 1) := by decide +kernel
theorem dX0_growLine_31 : decode cX0_growLine 31 = .ok (.getfield 19, 3) := by decide +kernel
theorem dX0_growLine_34 : decode cX0_growLine 34 = .ok (.iconst 0, 1) := by decide +kernel
theorem dX0_growLine_35 : decode cX0_growLine 35 = .ok (.iaload, 1) := by decide +kernel
theorem dX0_growLine_36 : decode cX0_growLine 36 = .ok (.aload_n 0, 1) := by decide +kernel
theorem dX0_growLine_37 : decode cX0_growLine 37 = .ok (.getfield 23, 3) := by decide +kernel
theorem dX0_growLine_40 : decode cX0_growLine 40 = .ok (.iconst 0, 1) := by decide +kernel
theorem dX0_growLine_41 : decode cX0_growLine 41 = .ok (.iaload, 1) := by decide +kernel
theorem dX0_growLine_42 : decode cX0_growLine 42 = .ok (.invokestatic 87, 3) := by decide +kernel
theorem dX0_growLine_45 : decode cX0_growLine 45 = .ok (.ifCond .eq 30, 3) := by decide +kernel
theorem dX0_growLine_48 : decode cX0_growLine 48 = .ok (.aload_n 0, 1) := by decide +kernel
theorem dX0_growLine_49 : decode cX0_growLine 49 = .ok (.iconst 1, 1) := by decide +kernel
theorem dX0_growLine_50 : decode cX0_growLine 50 = .ok (.aload_n 0, 1) := by decide +kernel
theorem dX0_growLine_51 : decode cX0_growLine 51 = .ok (.getfield 19, 3) := by decide +kernel
theorem dX0_growLine_54 : decode cX0_growLine 54 = .ok (.iload_n 3, 1) := by decide +kernel
theorem dX0_growLine_55 : decode cX0_growLine 55 = .ok (.iaload, 1) := by decide +kernel
theorem dX0_growLine_56 : decode cX0_growLine 56 = .ok (.aload_n 0, 1) := by decide +kernel
theorem dX0_growLine_57 : decode cX0_growLine 57 = .ok (.getfield 23, 3) := by decide +kernel
theorem dX0_growLine_60 : decode cX0_growLine 60 = .ok (.iload_n 3, 1) := by decide +kernel
theorem dX0_growLine_61 : decode cX0_growLine 61 = .ok (.iaload, 1) := by decide +kernel
theorem dX0_growLine_62 : decode cX0_growLine 62 = .ok (.invokevirtual 91, 3) := by decide +kernel
theorem dX0_growLine_65 : decode cX0_growLine 65 = .ok (.aload_n 0, 1) := by decide +kernel
theorem dX0_growLine_66 : decode cX0_growLine 66 = .ok (.iconst 0, 1) := by decide +kernel
theorem dX0_growLine_67 : decode cX0_growLine 67 = .ok (.iload_n 1, 1) := by decide +kernel
theorem dX0_growLine_68 : decode cX0_growLine 68 = .ok (.iload_n 2, 1) := by decide +kernel
theorem dX0_growLine_69 : decode cX0_growLine 69 = .ok (.invokevirtual 91, 3) := by decide +kernel
theorem dX0_growLine_72 : decode cX0_growLine 72 = .ok (.goto 10, 3) := by decide +kernel
theorem dX0_growLine_75 : decode cX0_growLine 75 = .ok (.aload_n 0, 1) := by decide +kernel
theorem dX0_growLine_76 : decode cX0_growLine 76 = .ok (.iconst 1, 1) := by decide +kernel
theorem dX0_growLine_77 : decode cX0_growLine 77 = .ok (.iload_n 1, 1) := by decide +kernel
theorem dX0_growLine_78 : decode cX0_growLine 78 = .ok (.iload_n 2, 1) := by decide +kernel
theorem dX0_growLine_79 : decode cX0_growLine 79 = .ok (.invokevirtual 91, 3) := by decide +kernel
theorem dX0_growLine_82 : decode cX0_growLine 82 = .ok (.aload_n 0, 1) := by decide +kernel
theorem dX0_growLine_83 : decode cX0_growLine 83 = .ok (.getfield 32, 3) := by decide +kernel
theorem dX0_growLine_86 : decode cX0_growLine 86 = .ok (.iconst 1, 1) := by decide +kernel
theorem dX0_growLine_87 : decode cX0_growLine 87 = .ok (.isub, 1) := by decide +kernel
theorem dX0_growLine_88 : decode cX0_growLine 88 = .ok (.istore 4, 2) := by decide +kernel
theorem dX0_growLine_90 : decode cX0_growLine 90 = .ok (.aload_n 0, 1) := by decide +kernel
theorem dX0_growLine_91 : decode cX0_growLine 91 = .ok (.iconst 2, 1) := by decide +kernel
theorem dX0_growLine_92 : decode cX0_growLine 92 = .ok (.putfield 32, 3) := by decide +kernel
theorem dX0_growLine_95 : decode cX0_growLine 95 = .ok (.iconst 1, 1) := by decide +kernel
theorem dX0_growLine_96 : decode cX0_growLine 96 = .ok (.iload 4, 2) := by decide +kernel
theorem dX0_growLine_98 : decode cX0_growLine 98 = .ok (.iadd, 1) := by decide +kernel
theorem dX0_growLine_99 : decode cX0_growLine 99 = .ok (.ireturn, 1) := by decide +kernel
set_option maxRecDepth 20000 in
theorem ggX0_growRing_X0_firstSeen : GoodIn wsX0_growRing wsX0_firstSeen := goodIn_r _ [7, 1, 8, 9, 10, 6, 11, 12, 13, 14, 15, 16, 17, 18, 19, 20, 21, 51, 52, 53, 54, 55, 56, 57] (by decide +kernel) (by decide +kernel)
set_option maxRecDepth 20000 in
theorem gX0_growRing_X0_firstSeen : GoodIn wsX0_growRing (wsV RX0 65 RX0 yX0_firstSeen wsX0_firstSeen) := goodIn_app (goodIn_of _ (by decide +kernel)) ggX0_growRing_X0_firstSeen
set_option maxRecDepth 20000 in
theorem ggX0_growRing_X0_lastSeen : GoodIn wsX0_growRing wsX0_lastSeen := goodIn_r _ [25, 1, 8, 9, 10, 6, 11, 12, 13, 14, 15, 16, 17, 18, 19, 20, 21, 51, 52, 53, 54, 55, 56, 57] (by decide +kernel) (by decide +kernel)
set_option maxRecDepth 20000 in
theorem gX0_growRing_X0_lastSeen : GoodIn wsX0_growRing (wsV RX0 68 RX0 yX0_lastSeen wsX0_lastSeen) := goodIn_app (goodIn_of _ (by decide +kernel)) ggX0_growRing_X0_lastSeen
set_option maxRecDepth 20000 in
theorem ggX0_growRing_X0_isCorner : GoodIn wsX0_growRing wsX0_isCorner := goodIn_r _ [29, 1, 51, 52, 53, 54, 55, 56, 57] (by decide +kernel) (by decide +kernel)
set_option maxRecDepth 20000 in
theorem gX0_growRing_X0_isCorner : GoodIn wsX0_growRing (wsV RX0 54 RX0 yX0_isCorner wsX0_isCorner) := goodIn_app (goodIn_of _ (by decide +kernel)) ggX0_growRing_X0_isCorner
set_option maxRecDepth 20000 in
theorem ggX0_growRing_X0_fillRing : GoodIn wsX0_growRing wsX0_fillRing := goodIn_r _ [33, 34, 35, 12, 13, 14, 15, 16, 6, 17, 1, 51, 52, 53, 54, 55, 56, 57] (by decide +kernel) (by decide +kernel)
set_option maxRecDepth 20000 in
theorem gX0_growRing_X0_fillRing : GoodIn wsX0_growRing (wsV RX0 95 RX0 yX0_fillRing wsX0_fillRing) := goodIn_app (goodIn_of _ (by decide +kernel)) ggX0_growRing_X0_fillRing
set_option maxRecDepth 20000 in
theorem ggX0_growRing_X0_takeRing : GoodIn wsX0_growRing wsX0_takeRing := goodIn_r _ [39, 1, 34, 35, 40, 41, 42, 6, 43, 44, 45, 46, 47, 48, 49, 50, 12, 13, 14, 15, 16, 17, 51, 52, 53, 54, 55, 56, 57] (by decide +kernel) (by decide +kernel)
set_option maxRecDepth 20000 in
theorem gX0_growRing_X0_takeRing : GoodIn wsX0_growRing (wsV RX0 99 RX0 yX0_takeRing wsX0_takeRing) := goodIn_app (goodIn_of _ (by decide +kernel)) ggX0_growRing_X0_takeRing
theorem dX0_growRing_0 : decode cX0_growRing 0 = .ok (.aload_n 0, 1) := by decide +kernel
theorem dX0_growRing_1 : decode cX0_growRing 1 = .ok (.iload_n 1, 1) := by decide +kernel
theorem dX0_growRing_2 : decode cX0_growRing 2 = .ok (.iload_n 2, 1) := by decide +kernel
theorem dX0_growRing_3 : decode cX0_growRing 3 = .ok (.iconst 1, 1) := by decide +kernel
theorem dX0_growRing_4 : decode cX0_growRing 4 = .ok (.invokevirtual 65, 3) := by decide +kernel
theorem dX0_growRing_7 : decode cX0_growRing 7 = .ok (.istore_n 3, 1) := by decide +kernel
theorem dX0_growRing_8 : decode cX0_growRing 8 = .ok (.aload_n 0, 1) := by decide +kernel
theorem dX0_growRing_9 : decode cX0_growRing 9 = .ok (.iload_n 1, 1) := by decide +kernel
theorem dX0_growRing_10 : decode cX0_growRing 10 = .ok (.iload_n 2, 1) := by decide +kernel
theorem dX0_growRing_11 : decode cX0_growRing 11 = .ok (.iconst 1, 1) := by decide +kernel
theorem dX0_growRing_12 : decode cX0_growRing 12 = .ok (.invokevirtual 68, 3) := by decide +kernel
theorem dX0_growRing_15 : decode cX0_growRing 15 = .ok (.istore 4, 2) := by decide +kernel
theorem dX0_growRing_17 : decode cX0_growRing 17 = .ok (.aload_n 0, 1) := by decide +kernel
theorem dX0_growRing_18 : decode cX0_growRing 18 = .ok (.iload_n 3, 1) := by decide +kernel
theorem dX0_growRing_19 : decode cX0_growRing 19 = .ok (.invokevirtual 54, 3) := by decide +kernel
theorem dX0_growRing_22 : decode cX0_growRing 22 = .ok (.ifCond .eq 12, 3) := by decide +kernel
theorem dX0_growRing_25 : decode cX0_growRing 25 = .ok (.aload_n 0, 1) := by decide +kernel
theorem dX0_growRing_26 : decode cX0_growRing 26 = .ok (.iload 4, 2) := by decide +kernel
theorem dX0_growRing_28 : decode cX0_growRing 28 = .ok (.invokevirtual 54, 3) := by decide +kernel
theorem dX0_growRing_31 : decode cX0_growRing 31 = .ok (.ifCond .ne 5, 3) := by decide +kernel
theorem dX0_growRing_34 : decode cX0_growRing 34 = .ok (.iconst 0, 1) := by decide +kernel
theorem dX0_growRing_35 : decode cX0_growRing 35 = .ok (.ireturn, 1) := by decide +kernel
theorem dX0_growRing_36 : decode cX0_growRing 36 = .ok (.iload_n 3, 1) := by decide +kernel
theorem dX0_growRing_37 : decode cX0_growRing 37 = .ok (.iload 4, 2) := by decide +kernel
theorem dX0_growRing_39 : decode cX0_growRing 39 = .ok (.isub, 1) := by decide +kernel
theorem dX0_growRing_40 : decode cX0_growRing 40 = .ok (.iconst 1, 1) := by decide +kernel
theorem dX0_growRing_41 : decode cX0_growRing 41 = .ok (.iadd, 1) := by decide +kernel
theorem dX0_growRing_42 : decode cX0_growRing 42 = .ok (.istore 5, 2) := by decide +kernel
theorem dX0_growRing_44 : decode cX0_growRing 44 = .ok (.iload_n 3, 1) := by decide +kernel
theorem dX0_growRing_45 : decode cX0_growRing 45 = .ok (.iload 4, 2) := by decide +kernel
theorem dX0_growRing_47 : decode cX0_growRing 47 = .ok (.if_icmp .ge 12, 3) := by decide +kernel
theorem dX0_growRing_50 : decode cX0_growRing 50 = .ok (.iload 5, 2) := by decide +kernel
theorem dX0_growRing_52 : decode cX0_growRing 52 = .ok (.aload_n 0, 1) := by decide +kernel
theorem dX0_growRing_53 : decode cX0_growRing 53 = .ok (.getfield 32, 3) := by decide +kernel
theorem dX0_growRing_56 : decode cX0_growRing 56 = .ok (.iadd, 1) := by decide +kernel
theorem dX0_growRing_57 : decode cX0_growRing 57 = .ok (.istore 5, 2) := by decide +kernel
theorem dX0_growRing_59 : decode cX0_growRing 59 = .ok (.iload 5, 2) := by decide +kernel
theorem dX0_growRing_61 : decode cX0_growRing 61 = .ok (.iconst 1, 1) := by decide +kernel
theorem dX0_growRing_62 : decode cX0_growRing 62 = .ok (.iadd, 1) := by decide +kernel
theorem dX0_growRing_63 : decode cX0_growRing 63 = .ok (.aload_n 0, 1) := by decide +kernel
theorem dX0_growRing_64 : decode cX0_growRing 64 = .ok (.getfield 15, 3) := by decide +kernel
theorem dX0_growRing_67 : decode cX0_growRing 67 = .ok (.if_icmp .le 6, 3) := by decide +kernel
theorem dX0_growRing_70 : decode cX0_growRing 70 = .ok (.bipush (-2), 2) := by decide +kernel
theorem dX0_growRing_72 : decode cX0_growRing 72 = .ok (.ireturn, 1) := by decide +kernel
theorem dX0_growRing_73 : decode cX0_growRing 73 = .ok (.aload_n 0, 1) := by decide +kernel
theorem dX0_growRing_74 : decode cX0_growRing 74 = .ok (.getfield 32, 3) := by decide +kernel
theorem dX0_growRing_77 : decode cX0_growRing 77 = .ok (.iload 5, 2) := by decide +kernel
theorem dX0_growRing_79 : decode cX0_growRing 79 = .ok (.isub, 1) := by decide +kernel
theorem dX0_growRing_80 : decode cX0_growRing 80 = .ok (.istore 6, 2) := by decide +kernel
theorem dX0_growRing_82 : decode cX0_growRing 82 = .ok (.aload_n 0, 1) := by decide +kernel
theorem dX0_growRing_83 : decode cX0_growRing 83 = .ok (.iload_n 1, 1) := by decide +kernel
theorem dX0_growRing_84 : decode cX0_growRing 84 = .ok (.iload_n 2, 1) := by decide +kernel
theorem dX0_growRing_85 : decode cX0_growRing 85 = .ok (.iload 4, 2) := by decide +kernel
theorem dX0_growRing_87 : decode cX0_growRing 87 = .ok (.iload 5, 2) := by decide +kernel
theorem dX0_growRing_89 : decode cX0_growRing 89 = .ok (.invokevirtual 95, 3) := by decide +kernel
theorem dX0_growRing_92 : decode cX0_growRing 92 = .ok (.aload_n 0, 1) := by decide +kernel
theorem dX0_growRing_93 : decode cX0_growRing 93 = .ok (.iload 5, 2) := by decide +kernel
theorem dX0_growRing_95 : decode cX0_growRing 95 = .ok (.iconst 1, 1) := by decide +kernel
theorem dX0_growRing_96 : decode cX0_growRing 96 = .ok (.iadd, 1) := by decide +kernel
theorem dX0_growRing_97 : decode cX0_growRing 97 = .ok (.putfield 32, 3) := by decide +kernel
theorem dX0_growRing_100 : decode cX0_growRing 100 = .ok (.aload_n 0, 1) := by decide +kernel
theorem dX0_growRing_101 : decode cX0_growRing 101 = .ok (.invokevirtual 99, 3) := by decide +kernel
theorem dX0_growRing_104 : decode cX0_growRing 104 = .ok (.iconst 1, 1) := by decide +kernel
theorem dX0_growRing_105 : decode cX0_growRing 105 = .ok (.iload 6, 2) := by decide +kernel
theorem dX0_growRing_107 : decode cX0_growRing 107 = .ok (.iadd, 1) := by decide +kernel
theorem dX0_growRing_108 : decode cX0_growRing 108 = .ok (.ireturn, 1) := by decide +kernel
set_option maxRecDepth 20000 in
theorem ggX0_firstSeen_X0_turn : GoodIn wsX0_firstSeen wsX0_turn := goodIn_r _ [6, 7, 8, 9, 10, 11, 5, 12, 1, 17, 18, 19, 20, 21, 22, 23] (by decide +kernel) (by decide +kernel)
set_option maxRecDepth 20000 in
theorem gX0_firstSeen_X0_turn : GoodIn wsX0_firstSeen (wsV RX0 58 RX0 yX0_turn wsX0_turn) := goodIn_app (goodIn_of _ (by decide +kernel)) ggX0_firstSeen_X0_turn
set_option maxRecDepth 20000 in
theorem ggX0_firstSeen_X0_previous : GoodIn wsX0_firstSeen wsX0_previous := goodIn_r _ [16, 1, 17, 18, 19, 20, 21, 22, 23] (by decide +kernel) (by decide +kernel)
set_option maxRecDepth 20000 in
theorem gX0_firstSeen_X0_previous : GoodIn wsX0_firstSeen (wsV RX0 102 RX0 yX0_previous wsX0_previous) := goodIn_app (goodIn_of _ (by decide +kernel)) ggX0_firstSeen_X0_previous
theorem dX0_firstSeen_0 : decode cX0_firstSeen 0 = .ok (.iconst 0, 1) := by decide +kernel
theorem dX0_firstSeen_1 : decode cX0_firstSeen 1 = .ok (.istore 4, 2) := by decide +kernel
theorem dX0_firstSeen_3 : decode cX0_firstSeen 3 = .ok (.iload 4, 2) := by decide +kernel
theorem dX0_firstSeen_5 : decode cX0_firstSeen 5 = .ok (.aload_n 0, 1) := by decide +kernel
theorem dX0_firstSeen_6 : decode cX0_firstSeen 6 = .ok (.getfield 32, 3) := by decide +kernel
theorem dX0_firstSeen_9 : decode cX0_firstSeen 9 = .ok (.if_icmp .ge 40, 3) := by decide +kernel
theorem dX0_firstSeen_12 : decode cX0_firstSeen 12 = .ok (.aload_n 0, 1) := by decide +kernel
theorem dX0_firstSeen_13 : decode cX0_firstSeen 13 = .ok (.iload 4, 2) := by decide +kernel
theorem dX0_firstSeen_15 : decode cX0_firstSeen 15 = .ok (.iload_n 1, 1) := by decide +kernel
theorem dX0_firstSeen_16 : decode cX0_firstSeen 16 = .ok (.iload_n 2, 1) := by decide +kernel
theorem dX0_firstSeen_17 : decode cX0_firstSeen 17 = .ok (.invokevirtual 58, 3) := by decide +kernel
theorem dX0_firstSeen_20 : decode cX0_firstSeen 20 = .ok (.iload_n 3, 1) := by decide +kernel
theorem dX0_firstSeen_21 : decode cX0_firstSeen 21 = .ok (.if_icmp .ge 22, 3) := by decide +kernel
theorem dX0_firstSeen_24 : decode cX0_firstSeen 24 = .ok (.aload_n 0, 1) := by decide +kernel
theorem dX0_firstSeen_25 : decode cX0_firstSeen 25 = .ok (.aload_n 0, 1) := by decide +kernel
theorem dX0_firstSeen_26 : decode cX0_firstSeen 26 = .ok (.iload 4, 2) := by decide +kernel
theorem dX0_firstSeen_28 : decode cX0_firstSeen 28 = .ok (.invokevirtual 102, 3) := by decide +kernel
theorem dX0_firstSeen_31 : decode cX0_firstSeen 31 = .ok (.iload_n 1, 1) := by decide +kernel
theorem dX0_firstSeen_32 : decode cX0_firstSeen 32 = .ok (.iload_n 2, 1) := by decide +kernel
theorem dX0_firstSeen_33 : decode cX0_firstSeen 33 = .ok (.invokevirtual 58, 3) := by decide +kernel
theorem dX0_firstSeen_36 : decode cX0_firstSeen 36 = .ok (.iload_n 3, 1) := by decide +kernel
theorem dX0_firstSeen_37 : decode cX0_firstSeen 37 = .ok (.if_icmp .lt 6, 3) := by decide +kernel
theorem dX0_firstSeen_40 : decode cX0_firstSeen 40 = .ok (.iload 4, 2) := by decide +kernel
theorem dX0_firstSeen_42 : decode cX0_firstSeen 42 = .ok (.ireturn, 1) := by decide +kernel
theorem dX0_firstSeen_43 : decode cX0_firstSeen 43 = .ok (.iinc 4 1, 3) := by decide +kernel
theorem dX0_firstSeen_46 : decode cX0_firstSeen 46 = .ok (.goto (-43), 3) := by decide +kernel
theorem dX0_firstSeen_49 : decode cX0_firstSeen 49 = .ok (.iconst (-1), 1) := by decide +kernel
theorem dX0_firstSeen_50 : decode cX0_firstSeen 50 = .ok (.ireturn, 1) := by decide +kernel
set_option maxRecDepth 20000 in
theorem ggX0_lastSeen_X0_turn : GoodIn wsX0_lastSeen wsX0_turn := goodIn_r _ [6, 7, 8, 9, 10, 11, 5, 12, 1, 17, 18, 19, 20, 21, 22, 23] (by decide +kernel) (by decide +kernel)
set_option maxRecDepth 20000 in
theorem gX0_lastSeen_X0_turn : GoodIn wsX0_lastSeen (wsV RX0 58 RX0 yX0_turn wsX0_turn) := goodIn_app (goodIn_of _ (by decide +kernel)) ggX0_lastSeen_X0_turn
set_option maxRecDepth 20000 in
theorem ggX0_lastSeen_X0_previous : GoodIn wsX0_lastSeen wsX0_previous := goodIn_r _ [16, 1, 17, 18, 19, 20, 21, 22, 23] (by decide +kernel) (by decide +kernel)
set_option maxRecDepth 20000 in
theorem gX0_lastSeen_X0_previous : GoodIn wsX0_lastSeen (wsV RX0 102 RX0 yX0_previous wsX0_previous) := goodIn_app (goodIn_of _ (by decide +kernel)) ggX0_lastSeen_X0_previous
theorem dX0_lastSeen_0 : decode cX0_lastSeen 0 = .ok (.iconst 0, 1) := by decide +kernel
theorem dX0_lastSeen_1 : decode cX0_lastSeen 1 = .ok (.istore 4, 2) := by decide +kernel
theorem dX0_lastSeen_3 : decode cX0_lastSeen 3 = .ok (.iload 4, 2) := by decide +kernel
theorem dX0_lastSeen_5 : decode cX0_lastSeen 5 = .ok (.aload_n 0, 1) := by decide +kernel
theorem dX0_lastSeen_6 : decode cX0_lastSeen 6 = .ok (.getfield 32, 3) := by decide +kernel
theorem dX0_lastSeen_9 : decode cX0_lastSeen 9 = .ok (.if_icmp .ge 40, 3) := by decide +kernel
theorem dX0_lastSeen_12 : decode cX0_lastSeen 12 = .ok (.aload_n 0, 1) := by decide +kernel
theorem dX0_lastSeen_13 : decode cX0_lastSeen 13 = .ok (.iload 4, 2) := by decide +kernel
theorem dX0_lastSeen_15 : decode cX0_lastSeen 15 = .ok (.iload_n 1, 1) := by decide +kernel
theorem dX0_lastSeen_16 : decode cX0_lastSeen 16 = .ok (.iload_n 2, 1) := by decide +kernel
theorem dX0_lastSeen_17 : decode cX0_lastSeen 17 = .ok (.invokevirtual 58, 3) := by decide +kernel
theorem dX0_lastSeen_20 : decode cX0_lastSeen 20 = .ok (.iload_n 3, 1) := by decide +kernel
theorem dX0_lastSeen_21 : decode cX0_lastSeen 21 = .ok (.if_icmp .lt 22, 3) := by decide +kernel
theorem dX0_lastSeen_24 : decode cX0_lastSeen 24 = .ok (.aload_n 0, 1) := by decide +kernel
theorem dX0_lastSeen_25 : decode cX0_lastSeen 25 = .ok (.aload_n 0, 1) := by decide +kernel
theorem dX0_lastSeen_26 : decode cX0_lastSeen 26 = .ok (.iload 4, 2) := by decide +kernel
theorem dX0_lastSeen_28 : decode cX0_lastSeen 28 = .ok (.invokevirtual 102, 3) := by decide +kernel
theorem dX0_lastSeen_31 : decode cX0_lastSeen 31 = .ok (.iload_n 1, 1) := by decide +kernel
theorem dX0_lastSeen_32 : decode cX0_lastSeen 32 = .ok (.iload_n 2, 1) := by decide +kernel
theorem dX0_lastSeen_33 : decode cX0_lastSeen 33 = .ok (.invokevirtual 58, 3) := by decide +kernel
theorem dX0_lastSeen_36 : decode cX0_lastSeen 36 = .ok (.iload_n 3, 1) := by decide +kernel
theorem dX0_lastSeen_37 : decode cX0_lastSeen 37 = .ok (.if_icmp .ge 6, 3) := by decide +kernel
theorem dX0_lastSeen_40 : decode cX0_lastSeen 40 = .ok (.iload 4, 2) := by decide +kernel
theorem dX0_lastSeen_42 : decode cX0_lastSeen 42 = .ok (.ireturn, 1) := by decide +kernel
theorem dX0_lastSeen_43 : decode cX0_lastSeen 43 = .ok (.iinc 4 1, 3) := by decide +kernel
theorem dX0_lastSeen_46 : decode cX0_lastSeen 46 = .ok (.goto (-43), 3) := by decide +kernel
theorem dX0_lastSeen_49 : decode cX0_lastSeen 49 = .ok (.iconst (-1), 1) := by decide +kernel
theorem dX0_lastSeen_50 : decode cX0_lastSeen 50 = .ok (.ireturn, 1) := by decide +kernel
theorem dX0_setCorner_0 : decode cX0_setCorner 0 = .ok (.aload_n 0, 1) := by decide +kernel
theorem dX0_setCorner_1 : decode cX0_setCorner 1 = .ok (.getfield 19, 3) := by decide +kernel
theorem dX0_setCorner_4 : decode cX0_setCorner 4 = .ok (.iload_n 1, 1) := by decide +kernel
theorem dX0_setCorner_5 : decode cX0_setCorner 5 = .ok (.iload_n 2, 1) := by decide +kernel
theorem dX0_setCorner_6 : decode cX0_setCorner 6 = .ok (.iastore, 1) := by decide +kernel
theorem dX0_setCorner_7 : decode cX0_setCorner 7 = .ok (.aload_n 0, 1) := by decide +kernel
theorem dX0_setCorner_8 : decode cX0_setCorner 8 = .ok (.getfield 23, 3) := by decide +kernel
theorem dX0_setCorner_11 : decode cX0_setCorner 11 = .ok (.iload_n 1, 1) := by decide +kernel
theorem dX0_setCorner_12 : decode cX0_setCorner 12 = .ok (.iload_n 3, 1) := by decide +kernel
theorem dX0_setCorner_13 : decode cX0_setCorner 13 = .ok (.iastore, 1) := by decide +kernel
theorem dX0_setCorner_14 : decode cX0_setCorner 14 = .ok (.return_, 1) := by decide +kernel
set_option maxRecDepth 20000 in
theorem ggX0_fillRing_X0_next : GoodIn wsX0_fillRing wsX0_next := goodIn_r _ [9, 10, 11, 12, 13, 14, 15, 16, 17] (by decide +kernel) (by decide +kernel)
set_option maxRecDepth 20000 in
theorem gX0_fillRing_X0_next : GoodIn wsX0_fillRing (wsV RX0 77 RX0 yX0_next wsX0_next) := goodIn_app (goodIn_of _ (by decide +kernel)) ggX0_fillRing_X0_next
theorem dX0_fillRing_0 : decode cX0_fillRing 0 = .ok (.aload_n 0, 1) := by decide +kernel
theorem dX0_fillRing_1 : decode cX0_fillRing 1 = .ok (.getfield 26, 3) := by decide +kernel
theorem dX0_fillRing_4 : decode cX0_fillRing 4 = .ok (.iconst 0, 1) := by decide +kernel
theorem dX0_fillRing_5 : decode cX0_fillRing 5 = .ok (.iload_n 1, 1) := by decide +kernel
theorem dX0_fillRing_6 : decode cX0_fillRing 6 = .ok (.iastore, 1) := by decide +kernel
theorem dX0_fillRing_7 : decode cX0_fillRing 7 = .ok (.aload_n 0, 1) := by decide +kernel
theorem dX0_fillRing_8 : decode cX0_fillRing 8 = .ok (.getfield 29, 3) := by decide +kernel
theorem dX0_fillRing_11 : decode cX0_fillRing 11 = .ok (.iconst 0, 1) := by decide +kernel
theorem dX0_fillRing_12 : decode cX0_fillRing 12 = .ok (.iload_n 2, 1) := by decide +kernel
theorem dX0_fillRing_13 : decode cX0_fillRing 13 = .ok (.iastore, 1) := by decide +kernel
theorem dX0_fillRing_14 : decode cX0_fillRing 14 = .ok (.iload_n 3, 1) := by decide +kernel
theorem dX0_fillRing_15 : decode cX0_fillRing 15 = .ok (.istore 5, 2) := by decide +kernel
theorem dX0_fillRing_17 : decode cX0_fillRing 17 = .ok (.iconst 1, 1) := by decide +kernel
theorem dX0_fillRing_18 : decode cX0_fillRing 18 = .ok (.istore 6, 2) := by decide +kernel
theorem dX0_fillRing_20 : decode cX0_fillRing 20 = .ok (.iload 6, 2) := by decide +kernel
theorem dX0_fillRing_22 : decode cX0_fillRing 22 = .ok (.iload 4, 2) := by decide +kernel
theorem dX0_fillRing_24 : decode cX0_fillRing 24 = .ok (.if_icmp .gt 45, 3) := by decide +kernel
theorem dX0_fillRing_27 : decode cX0_fillRing 27 = .ok (.aload_n 0, 1) := by decide +kernel
theorem dX0_fillRing_28 : decode cX0_fillRing 28 = .ok (.getfield 26, 3) := by decide +kernel
theorem dX0_fillRing_31 : decode cX0_fillRing 31 = .ok (.iload 6, 2) := by decide +kernel
theorem dX0_fillRing_33 : decode cX0_fillRing 33 = .ok (.aload_n 0, 1) := by decide +kernel
theorem dX0_fillRing_34 : decode cX0_fillRing 34 = .ok (.getfield 19, 3) := by decide +kernel
theorem dX0_fillRing_37 : decode cX0_fillRing 37 = .ok (.iload 5, 2) := by decide +kernel
theorem dX0_fillRing_39 : decode cX0_fillRing 39 = .ok (.iaload, 1) := by decide +kernel
theorem dX0_fillRing_40 : decode cX0_fillRing 40 = .ok (.iastore, 1) := by decide +kernel
theorem dX0_fillRing_41 : decode cX0_fillRing 41 = .ok (.aload_n 0, 1) := by decide +kernel
theorem dX0_fillRing_42 : decode cX0_fillRing 42 = .ok (.getfield 29, 3) := by decide +kernel
theorem dX0_fillRing_45 : decode cX0_fillRing 45 = .ok (.iload 6, 2) := by decide +kernel
theorem dX0_fillRing_47 : decode cX0_fillRing 47 = .ok (.aload_n 0, 1) := by decide +kernel
theorem dX0_fillRing_48 : decode cX0_fillRing 48 = .ok (.getfield 23, 3) := by decide +kernel
theorem dX0_fillRing_51 : decode cX0_fillRing 51 = .ok (.iload 5, 2) := by decide +kernel
theorem dX0_fillRing_53 : decode cX0_fillRing 53 = .ok (.iaload, 1) := by decide +kernel
theorem dX0_fillRing_54 : decode cX0_fillRing 54 = .ok (.iastore, 1) := by decide +kernel
theorem dX0_fillRing_55 : decode cX0_fillRing 55 = .ok (.aload_n 0, 1) := by decide +kernel
theorem dX0_fillRing_56 : decode cX0_fillRing 56 = .ok (.iload 5, 2) := by decide +kernel
theorem dX0_fillRing_58 : decode cX0_fillRing 58 = .ok (.invokevirtual 77, 3) := by decide +kernel
theorem dX0_fillRing_61 : decode cX0_fillRing 61 = .ok (.istore 5, 2) := by decide +kernel
theorem dX0_fillRing_63 : decode cX0_fillRing 63 = .ok (.iinc 6 1, 3) := by decide +kernel
theorem dX0_fillRing_66 : decode cX0_fillRing 66 = .ok (.goto (-46), 3) := by decide +kernel
theorem dX0_fillRing_69 : decode cX0_fillRing 69 = .ok (.return_, 1) := by decide +kernel
set_option maxRecDepth 20000 in
theorem ggX0_takeRing_X0_leastOfRing : GoodIn wsX0_takeRing wsX0_leastOfRing := goodIn_r _ [8, 1, 2, 3, 9, 10, 7, 11, 22, 23, 24, 25, 26, 27, 28] (by decide +kernel) (by decide +kernel)
set_option maxRecDepth 20000 in
theorem gX0_takeRing_X0_leastOfRing : GoodIn wsX0_takeRing (wsV RX0 105 RX0 yX0_leastOfRing wsX0_leastOfRing) := goodIn_app (goodIn_of _ (by decide +kernel)) ggX0_takeRing_X0_leastOfRing
set_option maxRecDepth 20000 in
theorem ggX0_takeRing_X0_setCorner : GoodIn wsX0_takeRing wsX0_setCorner := goodIn_r _ [15, 16, 17, 22, 23, 24, 25, 26, 27, 28] (by decide +kernel) (by decide +kernel)
set_option maxRecDepth 20000 in
theorem gX0_takeRing_X0_setCorner : GoodIn wsX0_takeRing (wsV RX0 91 RX0 yX0_setCorner wsX0_setCorner) := goodIn_app (goodIn_of _ (by decide +kernel)) ggX0_takeRing_X0_setCorner
set_option maxRecDepth 20000 in
theorem ggX0_takeRing_X0_next : GoodIn wsX0_takeRing wsX0_next := goodIn_r _ [21, 1, 22, 23, 24, 25, 26, 27, 28] (by decide +kernel) (by decide +kernel)
set_option maxRecDepth 20000 in
theorem gX0_takeRing_X0_next : GoodIn wsX0_takeRing (wsV RX0 77 RX0 yX0_next wsX0_next) := goodIn_app (goodIn_of _ (by decide +kernel)) ggX0_takeRing_X0_next
theorem dX0_takeRing_0 : decode cX0_takeRing 0 = .ok (.aload_n 0, 1) := by decide +kernel
theorem dX0_takeRing_1 : decode cX0_takeRing 1 = .ok (.invokevirtual 105, 3) := by decide +kernel
theorem dX0_takeRing_4 : decode cX0_takeRing 4 = .ok (.istore_n 1, 1) := by decide +kernel
theorem dX0_takeRing_5 : decode cX0_takeRing 5 = .ok (.iconst 0, 1) := by decide +kernel
theorem dX0_takeRing_6 : decode cX0_takeRing 6 = .ok (.istore_n 2, 1) := by decide +kernel
theorem dX0_takeRing_7 : decode cX0_takeRing 7 = .ok (.iload_n 2, 1) := by decide +kernel
theorem dX0_takeRing_8 : decode cX0_takeRing 8 = .ok (.aload_n 0, 1) := by decide +kernel
theorem dX0_takeRing_9 : decode cX0_takeRing 9 = .ok (.getfield 32, 3) := by decide +kernel
theorem dX0_takeRing_12 : decode cX0_takeRing 12 = .ok (.if_icmp .ge 32, 3) := by decide +kernel
theorem dX0_takeRing_15 : decode cX0_takeRing 15 = .ok (.aload_n 0, 1) := by decide +kernel
theorem dX0_takeRing_16 : decode cX0_takeRing 16 = .ok (.iload_n 2, 1) := by decide +kernel
theorem dX0_takeRing_17 : decode cX0_takeRing 17 = .ok (.aload_n 0, 1) := by decide +kernel
theorem dX0_takeRing_18 : decode cX0_takeRing 18 = .ok (.getfield 26, 3) := by decide +kernel
theorem dX0_takeRing_21 : decode cX0_takeRing 21 = .ok (.iload_n 1, 1) := by decide +kernel
theorem dX0_takeRing_22 : decode cX0_takeRing 22 = .ok (.iaload, 1) := by decide +kernel
theorem dX0_takeRing_23 : decode cX0_takeRing 23 = .ok (.aload_n 0, 1) := by decide +kernel
theorem dX0_takeRing_24 : decode cX0_takeRing 24 = .ok (.getfield 29, 3) := by decide +kernel
theorem dX0_takeRing_27 : decode cX0_takeRing 27 = .ok (.iload_n 1, 1) := by decide +kernel
theorem dX0_takeRing_28 : decode cX0_takeRing 28 = .ok (.iaload, 1) := by decide +kernel
theorem dX0_takeRing_29 : decode cX0_takeRing 29 = .ok (.invokevirtual 91, 3) := by decide +kernel
theorem dX0_takeRing_32 : decode cX0_takeRing 32 = .ok (.aload_n 0, 1) := by decide +kernel
theorem dX0_takeRing_33 : decode cX0_takeRing 33 = .ok (.iload_n 1, 1) := by decide +kernel
theorem dX0_takeRing_34 : decode cX0_takeRing 34 = .ok (.invokevirtual 77, 3) := by decide +kernel
theorem dX0_takeRing_37 : decode cX0_takeRing 37 = .ok (.istore_n 1, 1) := by decide +kernel
theorem dX0_takeRing_38 : decode cX0_takeRing 38 = .ok (.iinc 2 1, 3) := by decide +kernel
theorem dX0_takeRing_41 : decode cX0_takeRing 41 = .ok (.goto (-34), 3) := by decide +kernel
theorem dX0_takeRing_44 : decode cX0_takeRing 44 = .ok (.return_, 1) := by decide +kernel
set_option maxRecDepth 20000 in
theorem ggX0_leastOfRing_X0_comesBefore : GoodIn wsX0_leastOfRing wsX0_comesBefore := goodIn_r _ [7] (by decide +kernel) (by decide +kernel)
set_option maxRecDepth 20000 in
theorem gX0_leastOfRing_X0_comesBefore : GoodIn wsX0_leastOfRing (va_wsS RX0 87 yX0_comesBefore wsX0_comesBefore) := goodIn_app (goodIn_of _ (by decide +kernel)) ggX0_leastOfRing_X0_comesBefore
theorem dX0_leastOfRing_0 : decode cX0_leastOfRing 0 = .ok (.iconst 0, 1) := by decide +kernel
theorem dX0_leastOfRing_1 : decode cX0_leastOfRing 1 = .ok (.istore_n 1, 1) := by decide +kernel
theorem dX0_leastOfRing_2 : decode cX0_leastOfRing 2 = .ok (.iconst 1, 1) := by decide +kernel
theorem dX0_leastOfRing_3 : decode cX0_leastOfRing 3 = .ok (.istore_n 2, 1) := by decide +kernel
theorem dX0_leastOfRing_4 : decode cX0_leastOfRing 4 = .ok (.iload_n 2, 1) := by decide +kernel
theorem dX0_leastOfRing_5 : decode cX0_leastOfRing 5 = .ok (.aload_n 0, 1) := by decide +kernel
theorem dX0_leastOfRing_6 : decode cX0_leastOfRing 6 = .ok (.getfield 32, 3) := by decide +kernel
theorem dX0_leastOfRing_9 : decode cX0_leastOfRing 9 = .ok (.if_icmp .ge 41, 3) := by decide +kernel
theorem dX0_leastOfRing_12 : decode cX0_leastOfRing 12 = .ok (.aload_n 0, 1) := by decide +kernel
theorem dX0_leastOfRing_13 : decode cX0_leastOfRing 13 = .ok (.getfield 26, 3) := by decide +kernel
theorem dX0_leastOfRing_16 : decode cX0_leastOfRing 16 = .ok (.iload_n 2, 1) := by decide +kernel
theorem dX0_leastOfRing_17 : decode cX0_leastOfRing 17 = .ok (.iaload, 1) := by decide +kernel
theorem dX0_leastOfRing_18 : decode cX0_leastOfRing 18 = .ok (.aload_n 0, 1) := by decide +kernel
theorem dX0_leastOfRing_19 : decode cX0_leastOfRing 19 = .ok (.getfield 29, 3) := by decide +kernel
theorem dX0_leastOfRing_22 : decode cX0_leastOfRing 22 = .ok (.iload_n 2, 1) := by decide +kernel
theorem dX0_leastOfRing_23 : decode cX0_leastOfRing 23 = .ok (.iaload, 1) := by decide +kernel
theorem dX0_leastOfRing_24 : decode cX0_leastOfRing 24 = .ok (.aload_n 0, 1) := by decide +kernel
theorem dX0_leastOfRing_25 : decode cX0_leastOfRing 25 = .ok (.getfield 26, 3) := by decide +kernel
theorem dX0_leastOfRing_28 : decode cX0_leastOfRing 28 = .ok (.iload_n 1, 1) := by decide +kernel
theorem dX0_leastOfRing_29 : decode cX0_leastOfRing 29 = .ok (.iaload, 1) := by decide +kernel
theorem dX0_leastOfRing_30 : decode cX0_leastOfRing 30 = .ok (.aload_n 0, 1) := by decide +kernel
theorem dX0_leastOfRing_31 : decode cX0_leastOfRing 31 = .ok (.getfield 29, 3) := by decide +kernel
theorem dX0_leastOfRing_34 : decode cX0_leastOfRing 34 = .ok (.iload_n 1, 1) := by decide +kernel
theorem dX0_leastOfRing_35 : decode cX0_leastOfRing 35 = .ok (.iaload, 1) := by decide +kernel
theorem dX0_leastOfRing_36 : decode cX0_leastOfRing 36 = .ok (.invokestatic 87, 3) := by decide +kernel
theorem dX0_leastOfRing_39 : decode cX0_leastOfRing 39 = .ok (.ifCond .eq 5, 3) := by decide +kernel
theorem dX0_leastOfRing_42 : decode cX0_leastOfRing 42 = .ok (.iload_n 2, 1) := by decide +kernel
theorem dX0_leastOfRing_43 : decode cX0_leastOfRing 43 = .ok (.istore_n 1, 1) := by decide +kernel
theorem dX0_leastOfRing_44 : decode cX0_leastOfRing 44 = .ok (.iinc 2 1, 3) := by decide +kernel
theorem dX0_leastOfRing_47 : decode cX0_leastOfRing 47 = .ok (.goto (-43), 3) := by decide +kernel
theorem dX0_leastOfRing_50 : decode cX0_leastOfRing 50 = .ok (.iload_n 1, 1) := by decide +kernel
theorem dX0_leastOfRing_51 : decode cX0_leastOfRing 51 = .ok (.ireturn, 1) := by decide +kernel

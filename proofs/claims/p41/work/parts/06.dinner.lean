theorem dX0_init_0 : decode cX0_init 0 = .ok (.aload_n 0, 1) := by decide +kernel
theorem dX0_init_1 : decode cX0_init 1 = .ok (.invokespecial 3, 3) := by decide +kernel
theorem dX0_init_4 : decode cX0_init 4 = .ok (.aload_n 0, 1) := by decide +kernel
theorem dX0_init_5 : decode cX0_init 5 = .ok (.iconst 3, 1) := by decide +kernel
theorem dX0_init_6 : decode cX0_init 6 = .ok (.newarray .int, 2) := by decide +kernel
theorem dX0_init_8 : decode cX0_init 8 = .ok (.putfield 9, 3) := by decide +kernel
theorem dX0_init_11 : decode cX0_init 11 = .ok (.aload_n 0, 1) := by decide +kernel
theorem dX0_init_12 : decode cX0_init 12 = .ok (.iconst 0, 1) := by decide +kernel
theorem dX0_init_13 : decode cX0_init 13 = .ok (.putfield 15, 3) := by decide +kernel
theorem dX0_init_16 : decode cX0_init 16 = .ok (.aload_n 0, 1) := by decide +kernel
theorem dX0_init_17 : decode cX0_init 17 = .ok (.iconst 0, 1) := by decide +kernel
theorem dX0_init_18 : decode cX0_init 18 = .ok (.putfield 19, 3) := by decide +kernel
theorem dX0_init_21 : decode cX0_init 21 = .ok (.return_, 1) := by decide +kernel
set_option maxRecDepth 20000 in
theorem ggX0_move_X5_middle : GoodIn wsX0_move wsX5_middle := goodIn_r _ [14, 15, 7, 4, 8, 16, 3, 5] (by decide +kernel) (by decide +kernel)
set_option maxRecDepth 20000 in
theorem gX0_move_X5_middle : GoodIn wsX0_move (va_wsS RX0 32 yX5_middle wsX5_middle) := goodIn_app (goodIn_of _ (by decide +kernel)) ggX0_move_X5_middle
theorem dX0_move_0 : decode cX0_move 0 = .ok (.aload_n 0, 1) := by decide +kernel
theorem dX0_move_1 : decode cX0_move 1 = .ok (.getfield 9, 3) := by decide +kernel
theorem dX0_move_4 : decode cX0_move 4 = .ok (.iconst 0, 1) := by decide +kernel
theorem dX0_move_5 : decode cX0_move 5 = .ok (.iaload, 1) := by decide +kernel
theorem dX0_move_6 : decode cX0_move 6 = .ok (.aload_n 0, 1) := by decide +kernel
theorem dX0_move_7 : decode cX0_move 7 = .ok (.getfield 9, 3) := by decide +kernel
theorem dX0_move_10 : decode cX0_move 10 = .ok (.iconst 1, 1) := by decide +kernel
theorem dX0_move_11 : decode cX0_move 11 = .ok (.iaload, 1) := by decide +kernel
theorem dX0_move_12 : decode cX0_move 12 = .ok (.aload_n 0, 1) := by decide +kernel
theorem dX0_move_13 : decode cX0_move 13 = .ok (.getfield 9, 3) := by decide +kernel
theorem dX0_move_16 : decode cX0_move 16 = .ok (.iconst 2, 1) := by decide +kernel
theorem dX0_move_17 : decode cX0_move 17 = .ok (.iaload, 1) := by decide +kernel
theorem dX0_move_18 : decode cX0_move 18 = .ok (.invokestatic 23, 3) := by decide +kernel
theorem dX0_move_21 : decode cX0_move 21 = .ok (.invokestatic 23, 3) := by decide +kernel
theorem dX0_move_24 : decode cX0_move 24 = .ok (.istore_n 2, 1) := by decide +kernel
theorem dX0_move_25 : decode cX0_move 25 = .ok (.aload_n 0, 1) := by decide +kernel
theorem dX0_move_26 : decode cX0_move 26 = .ok (.getfield 9, 3) := by decide +kernel
theorem dX0_move_29 : decode cX0_move 29 = .ok (.iconst 0, 1) := by decide +kernel
theorem dX0_move_30 : decode cX0_move 30 = .ok (.iaload, 1) := by decide +kernel
theorem dX0_move_31 : decode cX0_move 31 = .ok (.aload_n 0, 1) := by decide +kernel
theorem dX0_move_32 : decode cX0_move 32 = .ok (.getfield 9, 3) := by decide +kernel
theorem dX0_move_35 : decode cX0_move 35 = .ok (.iconst 1, 1) := by decide +kernel
theorem dX0_move_36 : decode cX0_move 36 = .ok (.iaload, 1) := by decide +kernel
theorem dX0_move_37 : decode cX0_move 37 = .ok (.aload_n 0, 1) := by decide +kernel
theorem dX0_move_38 : decode cX0_move 38 = .ok (.getfield 9, 3) := by decide +kernel
theorem dX0_move_41 : decode cX0_move 41 = .ok (.iconst 2, 1) := by decide +kernel
theorem dX0_move_42 : decode cX0_move 42 = .ok (.iaload, 1) := by decide +kernel
theorem dX0_move_43 : decode cX0_move 43 = .ok (.invokestatic 29, 3) := by decide +kernel
theorem dX0_move_46 : decode cX0_move 46 = .ok (.invokestatic 29, 3) := by decide +kernel
theorem dX0_move_49 : decode cX0_move 49 = .ok (.istore_n 3, 1) := by decide +kernel
theorem dX0_move_50 : decode cX0_move 50 = .ok (.iload_n 2, 1) := by decide +kernel
theorem dX0_move_51 : decode cX0_move 51 = .ok (.iload_n 3, 1) := by decide +kernel
theorem dX0_move_52 : decode cX0_move 52 = .ok (.isub, 1) := by decide +kernel
theorem dX0_move_53 : decode cX0_move 53 = .ok (.bipush 100, 2) := by decide +kernel
theorem dX0_move_55 : decode cX0_move 55 = .ok (.if_icmp .le 8, 3) := by decide +kernel
theorem dX0_move_58 : decode cX0_move 58 = .ok (.aload_n 0, 1) := by decide +kernel
theorem dX0_move_59 : decode cX0_move 59 = .ok (.iconst 1, 1) := by decide +kernel
theorem dX0_move_60 : decode cX0_move 60 = .ok (.putfield 19, 3) := by decide +kernel
theorem dX0_move_63 : decode cX0_move 63 = .ok (.aload_n 0, 1) := by decide +kernel
theorem dX0_move_64 : decode cX0_move 64 = .ok (.aload_n 0, 1) := by decide +kernel
theorem dX0_move_65 : decode cX0_move 65 = .ok (.getfield 19, 3) := by decide +kernel
theorem dX0_move_68 : decode cX0_move 68 = .ok (.ifCond .eq 7, 3) := by decide +kernel
theorem dX0_move_71 : decode cX0_move 71 = .ok (.iconst 0, 1) := by decide +kernel
theorem dX0_move_72 : decode cX0_move 72 = .ok (.goto 26, 3) := by decide +kernel
theorem dX0_move_75 : decode cX0_move 75 = .ok (.iload_n 1, 1) := by decide +kernel
theorem dX0_move_76 : decode cX0_move 76 = .ok (.aload_n 0, 1) := by decide +kernel
theorem dX0_move_77 : decode cX0_move 77 = .ok (.getfield 9, 3) := by decide +kernel
theorem dX0_move_80 : decode cX0_move 80 = .ok (.iconst 0, 1) := by decide +kernel
theorem dX0_move_81 : decode cX0_move 81 = .ok (.iaload, 1) := by decide +kernel
theorem dX0_move_82 : decode cX0_move 82 = .ok (.aload_n 0, 1) := by decide +kernel
theorem dX0_move_83 : decode cX0_move 83 = .ok (.getfield 9, 3) := by decide +kernel
theorem dX0_move_86 : decode cX0_move 86 = .ok (.iconst 1, 1) := by decide +kernel
theorem dX0_move_87 : decode cX0_move 87 = .ok (.iaload, 1) := by decide +kernel
theorem dX0_move_88 : decode cX0_move 88 = .ok (.aload_n 0, 1) := by decide +kernel
theorem dX0_move_89 : decode cX0_move 89 = .ok (.getfield 9, 3) := by decide +kernel
theorem dX0_move_92 : decode cX0_move 92 = .ok (.iconst 2, 1) := by decide +kernel
theorem dX0_move_93 : decode cX0_move 93 = .ok (.iaload, 1) := by decide +kernel
theorem dX0_move_94 : decode cX0_move 94 = .ok (.invokestatic 32, 3) := by decide +kernel
theorem dX0_move_97 : decode cX0_move 97 = .ok (.iadd, 1) := by decide +kernel
theorem dX0_move_98 : decode cX0_move 98 = .ok (.putfield 15, 3) := by decide +kernel
theorem dX0_move_101 : decode cX0_move 101 = .ok (.return_, 1) := by decide +kernel
set_option maxRecDepth 20000 in
theorem ggX1_init_X4_init : GoodIn wsX1_init wsX4_init := goodIn_r _ [23, 24, 2, 3, 8, 25, 26, 27, 28, 29, 30] (by decide +kernel) (by decide +kernel)
set_option maxRecDepth 20000 in
theorem gX1_init_X4_init_n11 : GoodIn wsX1_init (wsX4_init) := ggX1_init_X4_init
theorem dX1_init_0 : decode cX1_init 0 = .ok (.aload_n 0, 1) := by decide +kernel
theorem dX1_init_1 : decode cX1_init 1 = .ok (.invokespecial 3, 3) := by decide +kernel
theorem dX1_init_4 : decode cX1_init 4 = .ok (.aload_n 0, 1) := by decide +kernel
theorem dX1_init_5 : decode cX1_init 5 = .ok (.new 9, 3) := by decide +kernel
theorem dX1_init_8 : decode cX1_init 8 = .ok (.dup, 1) := by decide +kernel
theorem dX1_init_9 : decode cX1_init 9 = .ok (.invokespecial 11, 3) := by decide +kernel
theorem dX1_init_12 : decode cX1_init 12 = .ok (.putfield 12, 3) := by decide +kernel
theorem dX1_init_15 : decode cX1_init 15 = .ok (.aload_n 0, 1) := by decide +kernel
theorem dX1_init_16 : decode cX1_init 16 = .ok (.iconst 3, 1) := by decide +kernel
theorem dX1_init_17 : decode cX1_init 17 = .ok (.newarray .int, 2) := by decide +kernel
theorem dX1_init_19 : decode cX1_init 19 = .ok (.putfield 18, 3) := by decide +kernel
theorem dX1_init_22 : decode cX1_init 22 = .ok (.aload_n 0, 1) := by decide +kernel
theorem dX1_init_23 : decode cX1_init 23 = .ok (.iconst 0, 1) := by decide +kernel
theorem dX1_init_24 : decode cX1_init 24 = .ok (.putfield 22, 3) := by decide +kernel
theorem dX1_init_27 : decode cX1_init 27 = .ok (.aload_n 0, 1) := by decide +kernel
theorem dX1_init_28 : decode cX1_init 28 = .ok (.iconst 0, 1) := by decide +kernel
theorem dX1_init_29 : decode cX1_init 29 = .ok (.putfield 26, 3) := by decide +kernel
theorem dX1_init_32 : decode cX1_init 32 = .ok (.aload_n 0, 1) := by decide +kernel
theorem dX1_init_33 : decode cX1_init 33 = .ok (.iconst 0, 1) := by decide +kernel
theorem dX1_init_34 : decode cX1_init 34 = .ok (.putfield 29, 3) := by decide +kernel
theorem dX1_init_37 : decode cX1_init 37 = .ok (.aload_n 0, 1) := by decide +kernel
theorem dX1_init_38 : decode cX1_init 38 = .ok (.iconst (-1), 1) := by decide +kernel
theorem dX1_init_39 : decode cX1_init 39 = .ok (.putfield 32, 3) := by decide +kernel
theorem dX1_init_42 : decode cX1_init 42 = .ok (.aload_n 0, 1) := by decide +kernel
theorem dX1_init_43 : decode cX1_init 43 = .ok (.iconst 1, 1) := by decide +kernel
theorem dX1_init_44 : decode cX1_init 44 = .ok (.putfield 35, 3) := by decide +kernel
theorem dX1_init_47 : decode cX1_init 47 = .ok (.aload_n 0, 1) := by decide +kernel
theorem dX1_init_48 : decode cX1_init 48 = .ok (.iconst 0, 1) := by decide +kernel
theorem dX1_init_49 : decode cX1_init 49 = .ok (.putfield 39, 3) := by decide +kernel
theorem dX1_init_52 : decode cX1_init 52 = .ok (.aload_n 0, 1) := by decide +kernel
theorem dX1_init_53 : decode cX1_init 53 = .ok (.iconst 4, 1) := by decide +kernel
theorem dX1_init_54 : decode cX1_init 54 = .ok (.newarray .int, 2) := by decide +kernel
theorem dX1_init_56 : decode cX1_init 56 = .ok (.putfield 42, 3) := by decide +kernel
theorem dX1_init_59 : decode cX1_init 59 = .ok (.aload_n 0, 1) := by decide +kernel
theorem dX1_init_60 : decode cX1_init 60 = .ok (.iconst 0, 1) := by decide +kernel
theorem dX1_init_61 : decode cX1_init 61 = .ok (.putfield 45, 3) := by decide +kernel
theorem dX1_init_64 : decode cX1_init 64 = .ok (.aload_n 0, 1) := by decide +kernel
theorem dX1_init_65 : decode cX1_init 65 = .ok (.iconst 0, 1) := by decide +kernel
theorem dX1_init_66 : decode cX1_init 66 = .ok (.putfield 48, 3) := by decide +kernel
theorem dX1_init_69 : decode cX1_init 69 = .ok (.aload_n 0, 1) := by decide +kernel
theorem dX1_init_70 : decode cX1_init 70 = .ok (.iconst 0, 1) := by decide +kernel
theorem dX1_init_71 : decode cX1_init 71 = .ok (.putfield 51, 3) := by decide +kernel
theorem dX1_init_74 : decode cX1_init 74 = .ok (.aload_n 0, 1) := by decide +kernel
theorem dX1_init_75 : decode cX1_init 75 = .ok (.iconst (-1), 1) := by decide +kernel
theorem dX1_init_76 : decode cX1_init 76 = .ok (.putfield 54, 3) := by decide +kernel
theorem dX1_init_79 : decode cX1_init 79 = .ok (.aload_n 0, 1) := by decide +kernel
theorem dX1_init_80 : decode cX1_init 80 = .ok (.iconst 0, 1) := by decide +kernel
theorem dX1_init_81 : decode cX1_init 81 = .ok (.putfield 57, 3) := by decide +kernel
theorem dX1_init_84 : decode cX1_init 84 = .ok (.return_, 1) := by decide +kernel
theorem dX1_hasStuckBit_0 : decode cX1_hasStuckBit 0 = .ok (.aload_n 0, 1) := by decide +kernel
theorem dX1_hasStuckBit_1 : decode cX1_hasStuckBit 1 = .ok (.getfield 32, 3) := by decide +kernel
theorem dX1_hasStuckBit_4 : decode cX1_hasStuckBit 4 = .ok (.iconst (-1), 1) := by decide +kernel
theorem dX1_hasStuckBit_5 : decode cX1_hasStuckBit 5 = .ok (.if_icmp .eq 7, 3) := by decide +kernel
theorem dX1_hasStuckBit_8 : decode cX1_hasStuckBit 8 = .ok (.iconst 1, 1) := by decide +kernel
theorem dX1_hasStuckBit_9 : decode cX1_hasStuckBit 9 = .ok (.goto 4, 3) := by decide +kernel
theorem dX1_hasStuckBit_12 : decode cX1_hasStuckBit 12 = .ok (.iconst 0, 1) := by decide +kernel
theorem dX1_hasStuckBit_13 : decode cX1_hasStuckBit 13 = .ok (.ireturn, 1) := by decide +kernel
theorem dX1_letStick_0 : decode cX1_letStick 0 = .ok (.aload_n 0, 1) := by decide +kernel
theorem dX1_letStick_1 : decode cX1_letStick 1 = .ok (.iload_n 1, 1) := by decide +kernel
theorem dX1_letStick_2 : decode cX1_letStick 2 = .ok (.putfield 32, 3) := by decide +kernel
theorem dX1_letStick_5 : decode cX1_letStick 5 = .ok (.aload_n 0, 1) := by decide +kernel
theorem dX1_letStick_6 : decode cX1_letStick 6 = .ok (.iload_n 2, 1) := by decide +kernel
theorem dX1_letStick_7 : decode cX1_letStick 7 = .ok (.putfield 45, 3) := by decide +kernel
theorem dX1_letStick_10 : decode cX1_letStick 10 = .ok (.aload_n 0, 1) := by decide +kernel
theorem dX1_letStick_11 : decode cX1_letStick 11 = .ok (.iload_n 3, 1) := by decide +kernel
theorem dX1_letStick_12 : decode cX1_letStick 12 = .ok (.putfield 48, 3) := by decide +kernel
theorem dX1_letStick_15 : decode cX1_letStick 15 = .ok (.aload_n 0, 1) := by decide +kernel
theorem dX1_letStick_16 : decode cX1_letStick 16 = .ok (.iconst 0, 1) := by decide +kernel
theorem dX1_letStick_17 : decode cX1_letStick 17 = .ok (.putfield 39, 3) := by decide +kernel
theorem dX1_letStick_20 : decode cX1_letStick 20 = .ok (.return_, 1) := by decide +kernel
set_option maxRecDepth 20000 in
theorem ggX1_resumeLike_X4_becomeLike : GoodIn wsX1_resumeLike wsX4_becomeLike := goodIn_r _ [9, 10, 11, 12, 8, 13, 14, 15, 16, 17, 18, 19, 34, 35, 36] (by decide +kernel) (by decide +kernel)
set_option maxRecDepth 20000 in
theorem gX1_resumeLike_X4_becomeLike : GoodIn wsX1_resumeLike (wsV RX1 60 RX4 yX4_becomeLike wsX4_becomeLike) := goodIn_app (goodIn_of _ (by decide +kernel)) ggX1_resumeLike_X4_becomeLike
theorem dX1_resumeLike_0 : decode cX1_resumeLike 0 = .ok (.aload_n 0, 1) := by decide +kernel
theorem dX1_resumeLike_1 : decode cX1_resumeLike 1 = .ok (.getfield 12, 3) := by decide +kernel
theorem dX1_resumeLike_4 : decode cX1_resumeLike 4 = .ok (.aload_n 1, 1) := by decide +kernel
theorem dX1_resumeLike_5 : decode cX1_resumeLike 5 = .ok (.getfield 12, 3) := by decide +kernel
theorem dX1_resumeLike_8 : decode cX1_resumeLike 8 = .ok (.invokevirtual 60, 3) := by decide +kernel
theorem dX1_resumeLike_11 : decode cX1_resumeLike 11 = .ok (.aload_n 0, 1) := by decide +kernel
theorem dX1_resumeLike_12 : decode cX1_resumeLike 12 = .ok (.iconst 0, 1) := by decide +kernel
theorem dX1_resumeLike_13 : decode cX1_resumeLike 13 = .ok (.putfield 29, 3) := by decide +kernel
theorem dX1_resumeLike_16 : decode cX1_resumeLike 16 = .ok (.aload_n 0, 1) := by decide +kernel
theorem dX1_resumeLike_17 : decode cX1_resumeLike 17 = .ok (.aload_n 1, 1) := by decide +kernel
theorem dX1_resumeLike_18 : decode cX1_resumeLike 18 = .ok (.getfield 22, 3) := by decide +kernel
theorem dX1_resumeLike_21 : decode cX1_resumeLike 21 = .ok (.putfield 22, 3) := by decide +kernel
theorem dX1_resumeLike_24 : decode cX1_resumeLike 24 = .ok (.aload_n 0, 1) := by decide +kernel
theorem dX1_resumeLike_25 : decode cX1_resumeLike 25 = .ok (.iconst 1, 1) := by decide +kernel
theorem dX1_resumeLike_26 : decode cX1_resumeLike 26 = .ok (.putfield 35, 3) := by decide +kernel
theorem dX1_resumeLike_29 : decode cX1_resumeLike 29 = .ok (.return_, 1) := by decide +kernel
theorem dX1_clockToldTo_0 : decode cX1_clockToldTo 0 = .ok (.aload_n 0, 1) := by decide +kernel
theorem dX1_clockToldTo_1 : decode cX1_clockToldTo 1 = .ok (.getfield 22, 3) := by decide +kernel
theorem dX1_clockToldTo_4 : decode cX1_clockToldTo 4 = .ok (.aload_n 0, 1) := by decide +kernel
theorem dX1_clockToldTo_5 : decode cX1_clockToldTo 5 = .ok (.getfield 18, 3) := by decide +kernel
theorem dX1_clockToldTo_8 : decode cX1_clockToldTo 8 = .ok (.iload_n 1, 1) := by decide +kernel
theorem dX1_clockToldTo_9 : decode cX1_clockToldTo 9 = .ok (.iaload, 1) := by decide +kernel
theorem dX1_clockToldTo_10 : decode cX1_clockToldTo 10 = .ok (.iadd, 1) := by decide +kernel
theorem dX1_clockToldTo_11 : decode cX1_clockToldTo 11 = .ok (.ireturn, 1) := by decide +kernel
set_option maxRecDepth 20000 in
theorem ggX1_begin_X1_change : GoodIn wsX1_begin wsX1_change := goodIn_r _ [6, 7, 8, 9, 10, 11, 12, 13, 14, 15, 16, 17, 18, 19, 20, 21, 22, 23, 24, 25, 26, 27, 28] (by decide +kernel) (by decide +kernel)
set_option maxRecDepth 20000 in
theorem gX1_begin_X1_change : GoodIn wsX1_begin (wsV RX1 64 RX1 yX1_change wsX1_change) := goodIn_app (goodIn_of _ (by decide +kernel)) ggX1_begin_X1_change
theorem dX1_begin_0 : decode cX1_begin 0 = .ok (.aload_n 0, 1) := by decide +kernel
theorem dX1_begin_1 : decode cX1_begin 1 = .ok (.iconst 0, 1) := by decide +kernel
theorem dX1_begin_2 : decode cX1_begin 2 = .ok (.putfield 51, 3) := by decide +kernel
theorem dX1_begin_5 : decode cX1_begin 5 = .ok (.iconst 0, 1) := by decide +kernel
theorem dX1_begin_6 : decode cX1_begin 6 = .ok (.istore_n 1, 1) := by decide +kernel
theorem dX1_begin_7 : decode cX1_begin 7 = .ok (.iload_n 1, 1) := by decide +kernel
theorem dX1_begin_8 : decode cX1_begin 8 = .ok (.iconst 4, 1) := by decide +kernel
theorem dX1_begin_9 : decode cX1_begin 9 = .ok (.if_icmp .ge 15, 3) := by decide +kernel
theorem dX1_begin_12 : decode cX1_begin 12 = .ok (.aload_n 0, 1) := by decide +kernel
theorem dX1_begin_13 : decode cX1_begin 13 = .ok (.iload_n 1, 1) := by decide +kernel
theorem dX1_begin_14 : decode cX1_begin 14 = .ok (.iconst 0, 1) := by decide +kernel
theorem dX1_begin_15 : decode cX1_begin 15 = .ok (.invokevirtual 64, 3) := by decide +kernel
theorem dX1_begin_18 : decode cX1_begin 18 = .ok (.iinc 1 1, 3) := by decide +kernel
theorem dX1_begin_21 : decode cX1_begin 21 = .ok (.goto (-14), 3) := by decide +kernel
theorem dX1_begin_24 : decode cX1_begin 24 = .ok (.return_, 1) := by decide +kernel
theorem dX1_hasLeft_0 : decode cX1_hasLeft 0 = .ok (.aload_n 0, 1) := by decide +kernel
theorem dX1_hasLeft_1 : decode cX1_hasLeft 1 = .ok (.getfield 51, 3) := by decide +kernel
theorem dX1_hasLeft_4 : decode cX1_hasLeft 4 = .ok (.aload_n 1, 1) := by decide +kernel
theorem dX1_hasLeft_5 : decode cX1_hasLeft 5 = .ok (.getfield 68, 3) := by decide +kernel
theorem dX1_hasLeft_8 : decode cX1_hasLeft 8 = .ok (.if_icmp .ge 7, 3) := by decide +kernel
theorem dX1_hasLeft_11 : decode cX1_hasLeft 11 = .ok (.iconst 1, 1) := by decide +kernel
theorem dX1_hasLeft_12 : decode cX1_hasLeft 12 = .ok (.goto 4, 3) := by decide +kernel
theorem dX1_hasLeft_15 : decode cX1_hasLeft 15 = .ok (.iconst 0, 1) := by decide +kernel
theorem dX1_hasLeft_16 : decode cX1_hasLeft 16 = .ok (.ireturn, 1) := by decide +kernel
set_option maxRecDepth 20000 in
theorem ggX1_doNext_X1_hasLeft : GoodIn wsX1_doNext wsX1_hasLeft := goodIn_r _ [10, 2, 11, 54, 55, 56, 57, 58, 59, 60, 61, 62, 63, 64, 65, 66, 67, 68, 69, 70, 71, 72] (by decide +kernel) (by decide +kernel)
set_option maxRecDepth 20000 in
theorem gX1_doNext_X1_hasLeft : GoodIn wsX1_doNext (wsV RX1 73 RX1 yX1_hasLeft wsX1_hasLeft) := goodIn_app (goodIn_of _ (by decide +kernel)) ggX1_doNext_X1_hasLeft
set_option maxRecDepth 20000 in
theorem ggX1_doNext_X4_mend : GoodIn wsX1_doNext wsX4_mend := goodIn_r _ [16, 17, 18, 19, 20, 21, 22, 23, 24, 25, 73, 74, 75] (by decide +kernel) (by decide +kernel)
set_option maxRecDepth 20000 in
theorem gX1_doNext_X4_mend : GoodIn wsX1_doNext (wsV RX1 84 RX4 yX4_mend wsX4_mend) := goodIn_app (goodIn_of _ (by decide +kernel)) ggX1_doNext_X4_mend
set_option maxRecDepth 20000 in
theorem ggX1_doNext_X1_carryOut : GoodIn wsX1_doNext wsX1_carryOut := goodIn_r _ [29, 30, 5, 3, 31, 4, 32, 1, 33, 2, 34, 35, 36, 9, 37, 38, 39, 40, 41, 42, 43, 44, 45, 46, 47, 15, 48, 49, 17, 50, 51, 52, 53, 68, 69, 70, 71, 72, 54, 55, 56, 57, 58, 59, 60, 61, 62, 63, 64, 65, 66, 67, 76, 77, 78, 79, 73, 74, 75] (by decide +kernel) (by decide +kernel)
set_option maxRecDepth 20000 in
theorem gX1_doNext_X1_carryOut : GoodIn wsX1_doNext (wsV RX1 88 RX1 yX1_carryOut wsX1_carryOut) := goodIn_app (goodIn_of _ (by decide +kernel)) ggX1_doNext_X1_carryOut
theorem dX1_doNext_0 : decode cX1_doNext 0 = .ok (.aload_n 0, 1) := by decide +kernel
theorem dX1_doNext_1 : decode cX1_doNext 1 = .ok (.iconst (-1), 1) := by decide +kernel
theorem dX1_doNext_2 : decode cX1_doNext 2 = .ok (.putfield 54, 3) := by decide +kernel
theorem dX1_doNext_5 : decode cX1_doNext 5 = .ok (.aload_n 0, 1) := by decide +kernel
theorem dX1_doNext_6 : decode cX1_doNext 6 = .ok (.aload_n 1, 1) := by decide +kernel
theorem dX1_doNext_7 : decode cX1_doNext 7 = .ok (.invokevirtual 73, 3) := by decide +kernel
theorem dX1_doNext_10 : decode cX1_doNext 10 = .ok (.ifCond .ne 5, 3) := by decide +kernel
theorem dX1_doNext_13 : decode cX1_doNext 13 = .ok (.iconst 1, 1) := by decide +kernel
theorem dX1_doNext_14 : decode cX1_doNext 14 = .ok (.ireturn, 1) := by decide +kernel
theorem dX1_doNext_15 : decode cX1_doNext 15 = .ok (.aload_n 0, 1) := by decide +kernel
theorem dX1_doNext_16 : decode cX1_doNext 16 = .ok (.getfield 51, 3) := by decide +kernel
theorem dX1_doNext_19 : decode cX1_doNext 19 = .ok (.istore 4, 2) := by decide +kernel
theorem dX1_doNext_21 : decode cX1_doNext 21 = .ok (.aload_n 1, 1) := by decide +kernel
theorem dX1_doNext_22 : decode cX1_doNext 22 = .ok (.getfield 77, 3) := by decide +kernel
theorem dX1_doNext_25 : decode cX1_doNext 25 = .ok (.iload 4, 2) := by decide +kernel
theorem dX1_doNext_27 : decode cX1_doNext 27 = .ok (.caload, 1) := by decide +kernel
theorem dX1_doNext_28 : decode cX1_doNext 28 = .ok (.bipush 114, 2) := by decide +kernel
theorem dX1_doNext_30 : decode cX1_doNext 30 = .ok (.if_icmp .ne 24, 3) := by decide +kernel
theorem dX1_doNext_33 : decode cX1_doNext 33 = .ok (.aload_n 0, 1) := by decide +kernel
theorem dX1_doNext_34 : decode cX1_doNext 34 = .ok (.getfield 12, 3) := by decide +kernel
theorem dX1_doNext_37 : decode cX1_doNext 37 = .ok (.iload_n 2, 1) := by decide +kernel
theorem dX1_doNext_38 : decode cX1_doNext 38 = .ok (.aload_n 1, 1) := by decide +kernel
theorem dX1_doNext_39 : decode cX1_doNext 39 = .ok (.getfield 81, 3) := by decide +kernel
theorem dX1_doNext_42 : decode cX1_doNext 42 = .ok (.iload 4, 2) := by decide +kernel
theorem dX1_doNext_44 : decode cX1_doNext 44 = .ok (.iaload, 1) := by decide +kernel
theorem dX1_doNext_45 : decode cX1_doNext 45 = .ok (.iadd, 1) := by decide +kernel
theorem dX1_doNext_46 : decode cX1_doNext 46 = .ok (.invokevirtual 84, 3) := by decide +kernel
theorem dX1_doNext_49 : decode cX1_doNext 49 = .ok (.ifCond .ne 5, 3) := by decide +kernel
theorem dX1_doNext_52 : decode cX1_doNext 52 = .ok (.iconst 0, 1) := by decide +kernel
theorem dX1_doNext_53 : decode cX1_doNext 53 = .ok (.ireturn, 1) := by decide +kernel
theorem dX1_doNext_54 : decode cX1_doNext 54 = .ok (.aload_n 0, 1) := by decide +kernel
theorem dX1_doNext_55 : decode cX1_doNext 55 = .ok (.iload 4, 2) := by decide +kernel
theorem dX1_doNext_57 : decode cX1_doNext 57 = .ok (.iconst 1, 1) := by decide +kernel
theorem dX1_doNext_58 : decode cX1_doNext 58 = .ok (.iadd, 1) := by decide +kernel
theorem dX1_doNext_59 : decode cX1_doNext 59 = .ok (.putfield 51, 3) := by decide +kernel
theorem dX1_doNext_62 : decode cX1_doNext 62 = .ok (.aload_n 0, 1) := by decide +kernel
theorem dX1_doNext_63 : decode cX1_doNext 63 = .ok (.aload_n 1, 1) := by decide +kernel
theorem dX1_doNext_64 : decode cX1_doNext 64 = .ok (.iload 4, 2) := by decide +kernel
theorem dX1_doNext_66 : decode cX1_doNext 66 = .ok (.iload_n 2, 1) := by decide +kernel
theorem dX1_doNext_67 : decode cX1_doNext 67 = .ok (.aload_n 3, 1) := by decide +kernel
theorem dX1_doNext_68 : decode cX1_doNext 68 = .ok (.invokevirtual 88, 3) := by decide +kernel
theorem dX1_doNext_71 : decode cX1_doNext 71 = .ok (.iconst 1, 1) := by decide +kernel
theorem dX1_doNext_72 : decode cX1_doNext 72 = .ok (.ireturn, 1) := by decide +kernel
set_option maxRecDepth 20000 in
theorem ggX1_carryOut_X1_change : GoodIn wsX1_carryOut wsX1_change := goodIn_r _ [14, 15, 16, 17, 4, 18, 19, 20, 21, 38, 39, 40, 41, 42, 43, 44, 45, 46, 47, 48, 49, 50, 51] (by decide +kernel) (by decide +kernel)
set_option maxRecDepth 20000 in
theorem gX1_carryOut_X1_change : GoodIn wsX1_carryOut (wsV RX1 64 RX1 yX1_change wsX1_change) := goodIn_app (goodIn_of _ (by decide +kernel)) ggX1_carryOut_X1_change
set_option maxRecDepth 20000 in
theorem ggX1_carryOut_X4_put : GoodIn wsX1_carryOut wsX4_put := goodIn_r _ [26, 27, 28, 56, 57, 58] (by decide +kernel) (by decide +kernel)
set_option maxRecDepth 20000 in
theorem gX1_carryOut_X4_put : GoodIn wsX1_carryOut (wsV RX1 93 RX4 yX4_put wsX4_put) := goodIn_app (goodIn_of _ (by decide +kernel)) ggX1_carryOut_X4_put
set_option maxRecDepth 20000 in
theorem ggX1_carryOut_X4_unflipped : GoodIn wsX1_carryOut wsX4_unflipped := goodIn_r _ [32, 27, 56, 57, 58] (by decide +kernel) (by decide +kernel)
set_option maxRecDepth 20000 in
theorem gX1_carryOut_X4_unflipped : GoodIn wsX1_carryOut (wsV RX1 96 RX4 yX4_unflipped wsX4_unflipped) := goodIn_app (goodIn_of _ (by decide +kernel)) ggX1_carryOut_X4_unflipped
theorem dX1_carryOut_0 : decode cX1_carryOut 0 = .ok (.aload_n 1, 1) := by decide +kernel
theorem dX1_carryOut_1 : decode cX1_carryOut 1 = .ok (.getfield 92, 3) := by decide +kernel
theorem dX1_carryOut_4 : decode cX1_carryOut 4 = .ok (.iload_n 2, 1) := by decide +kernel
theorem dX1_carryOut_5 : decode cX1_carryOut 5 = .ok (.iaload, 1) := by decide +kernel
theorem dX1_carryOut_6 : decode cX1_carryOut 6 = .ok (.istore 5, 2) := by decide +kernel
theorem dX1_carryOut_8 : decode cX1_carryOut 8 = .ok (.aload_n 1, 1) := by decide +kernel
theorem dX1_carryOut_9 : decode cX1_carryOut 9 = .ok (.getfield 81, 3) := by decide +kernel
theorem dX1_carryOut_12 : decode cX1_carryOut 12 = .ok (.iload_n 2, 1) := by decide +kernel
theorem dX1_carryOut_13 : decode cX1_carryOut 13 = .ok (.iaload, 1) := by decide +kernel
theorem dX1_carryOut_14 : decode cX1_carryOut 14 = .ok (.istore 6, 2) := by decide +kernel
theorem dX1_carryOut_16 : decode cX1_carryOut 16 = .ok (.aload_n 1, 1) := by decide +kernel
theorem dX1_carryOut_17 : decode cX1_carryOut 17 = .ok (.getfield 77, 3) := by decide +kernel
theorem dX1_carryOut_20 : decode cX1_carryOut 20 = .ok (.iload_n 2, 1) := by decide +kernel
theorem dX1_carryOut_21 : decode cX1_carryOut 21 = .ok (.caload, 1) := by decide +kernel
theorem dX1_carryOut_22 : decode cX1_carryOut 22 = .ok (.tableswitch 227 97 115 #[101, 227, 227, 227, 227, 227, 227, 227, 190, 227, 227, 90, 149, 227, 207, 227, 227, 170, 125], 90) := by decide +kernel
theorem dX1_carryOut_112 : decode cX1_carryOut 112 = .ok (.aload_n 0, 1) := by decide +kernel
theorem dX1_carryOut_113 : decode cX1_carryOut 113 = .ok (.iload 5, 2) := by decide +kernel
theorem dX1_carryOut_115 : decode cX1_carryOut 115 = .ok (.iload 6, 2) := by decide +kernel
theorem dX1_carryOut_117 : decode cX1_carryOut 117 = .ok (.invokevirtual 64, 3) := by decide +kernel
theorem dX1_carryOut_120 : decode cX1_carryOut 120 = .ok (.goto 145, 3) := by decide +kernel
theorem dX1_carryOut_123 : decode cX1_carryOut 123 = .ok (.aload_n 0, 1) := by decide +kernel
theorem dX1_carryOut_124 : decode cX1_carryOut 124 = .ok (.iload 5, 2) := by decide +kernel
theorem dX1_carryOut_126 : decode cX1_carryOut 126 = .ok (.aload_n 0, 1) := by decide +kernel
theorem dX1_carryOut_127 : decode cX1_carryOut 127 = .ok (.getfield 42, 3) := by decide +kernel
theorem dX1_carryOut_130 : decode cX1_carryOut 130 = .ok (.iload 5, 2) := by decide +kernel
theorem dX1_carryOut_132 : decode cX1_carryOut 132 = .ok (.iaload, 1) := by decide +kernel
theorem dX1_carryOut_133 : decode cX1_carryOut 133 = .ok (.aload_n 0, 1) := by decide +kernel
theorem dX1_carryOut_134 : decode cX1_carryOut 134 = .ok (.getfield 42, 3) := by decide +kernel
theorem dX1_carryOut_137 : decode cX1_carryOut 137 = .ok (.iload 6, 2) := by decide +kernel
theorem dX1_carryOut_139 : decode cX1_carryOut 139 = .ok (.iaload, 1) := by decide +kernel
theorem dX1_carryOut_140 : decode cX1_carryOut 140 = .ok (.iadd, 1) := by decide +kernel
theorem dX1_carryOut_141 : decode cX1_carryOut 141 = .ok (.invokevirtual 64, 3) := by decide +kernel
theorem dX1_carryOut_144 : decode cX1_carryOut 144 = .ok (.goto 121, 3) := by decide +kernel
theorem dX1_carryOut_147 : decode cX1_carryOut 147 = .ok (.aload_n 0, 1) := by decide +kernel
theorem dX1_carryOut_148 : decode cX1_carryOut 148 = .ok (.iload 5, 2) := by decide +kernel
theorem dX1_carryOut_150 : decode cX1_carryOut 150 = .ok (.aload_n 0, 1) := by decide +kernel
theorem dX1_carryOut_151 : decode cX1_carryOut 151 = .ok (.getfield 42, 3) := by decide +kernel
theorem dX1_carryOut_154 : decode cX1_carryOut 154 = .ok (.iload 5, 2) := by decide +kernel
theorem dX1_carryOut_156 : decode cX1_carryOut 156 = .ok (.iaload, 1) := by decide +kernel
theorem dX1_carryOut_157 : decode cX1_carryOut 157 = .ok (.aload_n 0, 1) := by decide +kernel
theorem dX1_carryOut_158 : decode cX1_carryOut 158 = .ok (.getfield 42, 3) := by decide +kernel
theorem dX1_carryOut_161 : decode cX1_carryOut 161 = .ok (.iload 6, 2) := by decide +kernel
theorem dX1_carryOut_163 : decode cX1_carryOut 163 = .ok (.iaload, 1) := by decide +kernel
theorem dX1_carryOut_164 : decode cX1_carryOut 164 = .ok (.isub, 1) := by decide +kernel
theorem dX1_carryOut_165 : decode cX1_carryOut 165 = .ok (.invokevirtual 64, 3) := by decide +kernel
theorem dX1_carryOut_168 : decode cX1_carryOut 168 = .ok (.goto 97, 3) := by decide +kernel
theorem dX1_carryOut_171 : decode cX1_carryOut 171 = .ok (.aload_n 0, 1) := by decide +kernel
theorem dX1_carryOut_172 : decode cX1_carryOut 172 = .ok (.getfield 12, 3) := by decide +kernel
theorem dX1_carryOut_175 : decode cX1_carryOut 175 = .ok (.iload_n 3, 1) := by decide +kernel
theorem dX1_carryOut_176 : decode cX1_carryOut 176 = .ok (.iload 6, 2) := by decide +kernel
theorem dX1_carryOut_178 : decode cX1_carryOut 178 = .ok (.iadd, 1) := by decide +kernel
theorem dX1_carryOut_179 : decode cX1_carryOut 179 = .ok (.aload_n 0, 1) := by decide +kernel
theorem dX1_carryOut_180 : decode cX1_carryOut 180 = .ok (.getfield 42, 3) := by decide +kernel
theorem dX1_carryOut_183 : decode cX1_carryOut 183 = .ok (.iload 5, 2) := by decide +kernel
theorem dX1_carryOut_185 : decode cX1_carryOut 185 = .ok (.iaload, 1) := by decide +kernel
theorem dX1_carryOut_186 : decode cX1_carryOut 186 = .ok (.invokevirtual 93, 3) := by decide +kernel
theorem dX1_carryOut_189 : decode cX1_carryOut 189 = .ok (.goto 76, 3) := by decide +kernel
theorem dX1_carryOut_192 : decode cX1_carryOut 192 = .ok (.aload_n 0, 1) := by decide +kernel
theorem dX1_carryOut_193 : decode cX1_carryOut 193 = .ok (.iload 5, 2) := by decide +kernel
theorem dX1_carryOut_195 : decode cX1_carryOut 195 = .ok (.aload_n 0, 1) := by decide +kernel
theorem dX1_carryOut_196 : decode cX1_carryOut 196 = .ok (.getfield 12, 3) := by decide +kernel
theorem dX1_carryOut_199 : decode cX1_carryOut 199 = .ok (.iload_n 3, 1) := by decide +kernel
theorem dX1_carryOut_200 : decode cX1_carryOut 200 = .ok (.iload 6, 2) := by decide +kernel
theorem dX1_carryOut_202 : decode cX1_carryOut 202 = .ok (.iadd, 1) := by decide +kernel
theorem dX1_carryOut_203 : decode cX1_carryOut 203 = .ok (.invokevirtual 96, 3) := by decide +kernel
theorem dX1_carryOut_206 : decode cX1_carryOut 206 = .ok (.invokevirtual 64, 3) := by decide +kernel
theorem dX1_carryOut_209 : decode cX1_carryOut 209 = .ok (.goto 56, 3) := by decide +kernel
theorem dX1_carryOut_212 : decode cX1_carryOut 212 = .ok (.aload_n 0, 1) := by decide +kernel
theorem dX1_carryOut_213 : decode cX1_carryOut 213 = .ok (.iload 5, 2) := by decide +kernel
theorem dX1_carryOut_215 : decode cX1_carryOut 215 = .ok (.aload 4, 2) := by decide +kernel
theorem dX1_carryOut_217 : decode cX1_carryOut 217 = .ok (.iload 6, 2) := by decide +kernel
theorem dX1_carryOut_219 : decode cX1_carryOut 219 = .ok (.aaload, 1) := by decide +kernel
theorem dX1_carryOut_220 : decode cX1_carryOut 220 = .ok (.getfield 100, 3) := by decide +kernel
theorem dX1_carryOut_223 : decode cX1_carryOut 223 = .ok (.invokevirtual 64, 3) := by decide +kernel
theorem dX1_carryOut_226 : decode cX1_carryOut 226 = .ok (.goto 39, 3) := by decide +kernel
theorem dX1_carryOut_229 : decode cX1_carryOut 229 = .ok (.aload_n 0, 1) := by decide +kernel
theorem dX1_carryOut_230 : decode cX1_carryOut 230 = .ok (.iload 6, 2) := by decide +kernel
theorem dX1_carryOut_232 : decode cX1_carryOut 232 = .ok (.putfield 54, 3) := by decide +kernel
theorem dX1_carryOut_235 : decode cX1_carryOut 235 = .ok (.aload_n 0, 1) := by decide +kernel
theorem dX1_carryOut_236 : decode cX1_carryOut 236 = .ok (.aload_n 0, 1) := by decide +kernel
theorem dX1_carryOut_237 : decode cX1_carryOut 237 = .ok (.getfield 42, 3) := by decide +kernel
theorem dX1_carryOut_240 : decode cX1_carryOut 240 = .ok (.iload 5, 2) := by decide +kernel
theorem dX1_carryOut_242 : decode cX1_carryOut 242 = .ok (.iaload, 1) := by decide +kernel
theorem dX1_carryOut_243 : decode cX1_carryOut 243 = .ok (.putfield 57, 3) := by decide +kernel
theorem dX1_carryOut_246 : decode cX1_carryOut 246 = .ok (.goto 19, 3) := by decide +kernel
theorem dX1_carryOut_249 : decode cX1_carryOut 249 = .ok (.aload_n 0, 1) := by decide +kernel
theorem dX1_carryOut_250 : decode cX1_carryOut 250 = .ok (.getfield 42, 3) := by decide +kernel
theorem dX1_carryOut_253 : decode cX1_carryOut 253 = .ok (.iload 5, 2) := by decide +kernel
theorem dX1_carryOut_255 : decode cX1_carryOut 255 = .ok (.iaload, 1) := by decide +kernel
theorem dX1_carryOut_256 : decode cX1_carryOut 256 = .ok (.ifCond .le 9, 3) := by decide +kernel
theorem dX1_carryOut_259 : decode cX1_carryOut 259 = .ok (.aload_n 0, 1) := by decide +kernel
theorem dX1_carryOut_260 : decode cX1_carryOut 260 = .ok (.iload 6, 2) := by decide +kernel
theorem dX1_carryOut_262 : decode cX1_carryOut 262 = .ok (.putfield 51, 3) := by decide +kernel
theorem dX1_carryOut_265 : decode cX1_carryOut 265 = .ok (.return_, 1) := by decide +kernel
set_option maxRecDepth 20000 in
theorem ggX1_change_X5_round : GoodIn wsX1_change wsX5_round := goodIn_r _ [8] (by decide +kernel) (by decide +kernel)
set_option maxRecDepth 20000 in
theorem gX1_change_X5_round : GoodIn wsX1_change (va_wsS RX1 105 yX5_round wsX5_round) := goodIn_app (goodIn_of _ (by decide +kernel)) ggX1_change_X5_round
theorem dX1_change_0 : decode cX1_change 0 = .ok (.iload_n 2, 1) := by decide +kernel
theorem dX1_change_1 : decode cX1_change 1 = .ok (.istore_n 3, 1) := by decide +kernel
theorem dX1_change_2 : decode cX1_change 2 = .ok (.iload_n 1, 1) := by decide +kernel
theorem dX1_change_3 : decode cX1_change 3 = .ok (.aload_n 0, 1) := by decide +kernel
theorem dX1_change_4 : decode cX1_change 4 = .ok (.getfield 32, 3) := by decide +kernel
theorem dX1_change_7 : decode cX1_change 7 = .ok (.if_icmp .ne 32, 3) := by decide +kernel
theorem dX1_change_10 : decode cX1_change 10 = .ok (.iconst 1, 1) := by decide +kernel
theorem dX1_change_11 : decode cX1_change 11 = .ok (.aload_n 0, 1) := by decide +kernel
theorem dX1_change_12 : decode cX1_change 12 = .ok (.getfield 45, 3) := by decide +kernel
theorem dX1_change_15 : decode cX1_change 15 = .ok (.ishl, 1) := by decide +kernel
theorem dX1_change_16 : decode cX1_change 16 = .ok (.istore 4, 2) := by decide +kernel
theorem dX1_change_18 : decode cX1_change 18 = .ok (.aload_n 0, 1) := by decide +kernel
theorem dX1_change_19 : decode cX1_change 19 = .ok (.getfield 48, 3) := by decide +kernel
theorem dX1_change_22 : decode cX1_change 22 = .ok (.ifCond .eq 10, 3) := by decide +kernel
theorem dX1_change_25 : decode cX1_change 25 = .ok (.iload_n 2, 1) := by decide +kernel
theorem dX1_change_26 : decode cX1_change 26 = .ok (.iload 4, 2) := by decide +kernel
theorem dX1_change_28 : decode cX1_change 28 = .ok (.ior, 1) := by decide +kernel
theorem dX1_change_29 : decode cX1_change 29 = .ok (.goto 9, 3) := by decide +kernel
theorem dX1_change_32 : decode cX1_change 32 = .ok (.iload_n 2, 1) := by decide +kernel
theorem dX1_change_33 : decode cX1_change 33 = .ok (.iload 4, 2) := by decide +kernel
theorem dX1_change_35 : decode cX1_change 35 = .ok (.iconst (-1), 1) := by decide +kernel
theorem dX1_change_36 : decode cX1_change 36 = .ok (.ixor, 1) := by decide +kernel
theorem dX1_change_37 : decode cX1_change 37 = .ok (.iand, 1) := by decide +kernel
theorem dX1_change_38 : decode cX1_change 38 = .ok (.istore_n 3, 1) := by decide +kernel
theorem dX1_change_39 : decode cX1_change 39 = .ok (.aload_n 0, 1) := by decide +kernel
theorem dX1_change_40 : decode cX1_change 40 = .ok (.getfield 42, 3) := by decide +kernel
theorem dX1_change_43 : decode cX1_change 43 = .ok (.iload_n 1, 1) := by decide +kernel
theorem dX1_change_44 : decode cX1_change 44 = .ok (.iload_n 3, 1) := by decide +kernel
theorem dX1_change_45 : decode cX1_change 45 = .ok (.invokestatic 105, 3) := by decide +kernel
theorem dX1_change_48 : decode cX1_change 48 = .ok (.iastore, 1) := by decide +kernel
theorem dX1_change_49 : decode cX1_change 49 = .ok (.return_, 1) := by decide +kernel
theorem dX1_givesLike_0 : decode cX1_givesLike 0 = .ok (.aload_n 0, 1) := by decide +kernel
theorem dX1_givesLike_1 : decode cX1_givesLike 1 = .ok (.getfield 54, 3) := by decide +kernel
theorem dX1_givesLike_4 : decode cX1_givesLike 4 = .ok (.aload_n 1, 1) := by decide +kernel
theorem dX1_givesLike_5 : decode cX1_givesLike 5 = .ok (.getfield 54, 3) := by decide +kernel
theorem dX1_givesLike_8 : decode cX1_givesLike 8 = .ok (.if_icmp .eq 5, 3) := by decide +kernel
theorem dX1_givesLike_11 : decode cX1_givesLike 11 = .ok (.iconst 0, 1) := by decide +kernel
theorem dX1_givesLike_12 : decode cX1_givesLike 12 = .ok (.ireturn, 1) := by decide +kernel
theorem dX1_givesLike_13 : decode cX1_givesLike 13 = .ok (.aload_n 0, 1) := by decide +kernel
theorem dX1_givesLike_14 : decode cX1_givesLike 14 = .ok (.getfield 54, 3) := by decide +kernel
theorem dX1_givesLike_17 : decode cX1_givesLike 17 = .ok (.iconst (-1), 1) := by decide +kernel
theorem dX1_givesLike_18 : decode cX1_givesLike 18 = .ok (.if_icmp .eq 14, 3) := by decide +kernel
theorem dX1_givesLike_21 : decode cX1_givesLike 21 = .ok (.aload_n 0, 1) := by decide +kernel
theorem dX1_givesLike_22 : decode cX1_givesLike 22 = .ok (.getfield 57, 3) := by decide +kernel
theorem dX1_givesLike_25 : decode cX1_givesLike 25 = .ok (.aload_n 1, 1) := by decide +kernel
theorem dX1_givesLike_26 : decode cX1_givesLike 26 = .ok (.getfield 57, 3) := by decide +kernel
theorem dX1_givesLike_29 : decode cX1_givesLike 29 = .ok (.if_icmp .ne 7, 3) := by decide +kernel
theorem dX1_givesLike_32 : decode cX1_givesLike 32 = .ok (.iconst 1, 1) := by decide +kernel
theorem dX1_givesLike_33 : decode cX1_givesLike 33 = .ok (.goto 4, 3) := by decide +kernel
theorem dX1_givesLike_36 : decode cX1_givesLike 36 = .ok (.iconst 0, 1) := by decide +kernel
theorem dX1_givesLike_37 : decode cX1_givesLike 37 = .ok (.ireturn, 1) := by decide +kernel
theorem dX1_handTo_0 : decode cX1_handTo 0 = .ok (.aload_n 0, 1) := by decide +kernel
theorem dX1_handTo_1 : decode cX1_handTo 1 = .ok (.getfield 54, 3) := by decide +kernel
theorem dX1_handTo_4 : decode cX1_handTo 4 = .ok (.iconst (-1), 1) := by decide +kernel
theorem dX1_handTo_5 : decode cX1_handTo 5 = .ok (.if_icmp .eq 13, 3) := by decide +kernel
theorem dX1_handTo_8 : decode cX1_handTo 8 = .ok (.aload_n 1, 1) := by decide +kernel
theorem dX1_handTo_9 : decode cX1_handTo 9 = .ok (.aload_n 0, 1) := by decide +kernel
theorem dX1_handTo_10 : decode cX1_handTo 10 = .ok (.getfield 54, 3) := by decide +kernel
theorem dX1_handTo_13 : decode cX1_handTo 13 = .ok (.aload_n 0, 1) := by decide +kernel
theorem dX1_handTo_14 : decode cX1_handTo 14 = .ok (.getfield 57, 3) := by decide +kernel
theorem dX1_handTo_17 : decode cX1_handTo 17 = .ok (.iastore, 1) := by decide +kernel
theorem dX1_handTo_18 : decode cX1_handTo 18 = .ok (.return_, 1) := by decide +kernel
theorem dX2_init_0 : decode cX2_init 0 = .ok (.aload_n 0, 1) := by decide +kernel
theorem dX2_init_1 : decode cX2_init 1 = .ok (.invokespecial 3, 3) := by decide +kernel
theorem dX2_init_4 : decode cX2_init 4 = .ok (.aload_n 0, 1) := by decide +kernel
theorem dX2_init_5 : decode cX2_init 5 = .ok (.iconst 2, 1) := by decide +kernel
theorem dX2_init_6 : decode cX2_init 6 = .ok (.bipush 6, 2) := by decide +kernel
theorem dX2_init_8 : decode cX2_init 8 = .ok (.multianewarray 9 2, 4) := by decide +kernel
theorem dX2_init_12 : decode cX2_init 12 = .ok (.putfield 11, 3) := by decide +kernel
theorem dX2_init_15 : decode cX2_init 15 = .ok (.aload_n 0, 1) := by decide +kernel
theorem dX2_init_16 : decode cX2_init 16 = .ok (.iconst 2, 1) := by decide +kernel
theorem dX2_init_17 : decode cX2_init 17 = .ok (.newarray .boolean, 2) := by decide +kernel
theorem dX2_init_19 : decode cX2_init 19 = .ok (.putfield 16, 3) := by decide +kernel
theorem dX2_init_22 : decode cX2_init 22 = .ok (.aload_n 0, 1) := by decide +kernel
theorem dX2_init_23 : decode cX2_init 23 = .ok (.iconst (-1), 1) := by decide +kernel
theorem dX2_init_24 : decode cX2_init 24 = .ok (.putfield 20, 3) := by decide +kernel
theorem dX2_init_27 : decode cX2_init 27 = .ok (.return_, 1) := by decide +kernel
set_option maxRecDepth 20000 in
theorem ggX2_spoil_X2_nextToWrite : GoodIn wsX2_spoil wsX2_nextToWrite := goodIn_r _ [6, 7, 8, 9, 10] (by decide +kernel) (by decide +kernel)
set_option maxRecDepth 20000 in
theorem gX2_spoil_X2_nextToWrite : GoodIn wsX2_spoil (wsV RX2 24 RX2 yX2_nextToWrite wsX2_nextToWrite) := goodIn_app (goodIn_of _ (by decide +kernel)) ggX2_spoil_X2_nextToWrite
theorem dX2_spoil_0 : decode cX2_spoil 0 = .ok (.aload_n 0, 1) := by decide +kernel
theorem dX2_spoil_1 : decode cX2_spoil 1 = .ok (.getfield 16, 3) := by decide +kernel
theorem dX2_spoil_4 : decode cX2_spoil 4 = .ok (.aload_n 0, 1) := by decide +kernel
theorem dX2_spoil_5 : decode cX2_spoil 5 = .ok (.invokevirtual 24, 3) := by decide +kernel
theorem dX2_spoil_8 : decode cX2_spoil 8 = .ok (.iconst 0, 1) := by decide +kernel
theorem dX2_spoil_9 : decode cX2_spoil 9 = .ok (.bastore, 1) := by decide +kernel
theorem dX2_spoil_10 : decode cX2_spoil 10 = .ok (.return_, 1) := by decide +kernel
set_option maxRecDepth 20000 in
theorem ggX2_keep_X2_nextToWrite : GoodIn wsX2_keep wsX2_nextToWrite := goodIn_r _ [8, 3, 15, 16, 17] (by decide +kernel) (by decide +kernel)
set_option maxRecDepth 20000 in
theorem gX2_keep_X2_nextToWrite : GoodIn wsX2_keep (wsV RX2 24 RX2 yX2_nextToWrite wsX2_nextToWrite) := goodIn_app (goodIn_of _ (by decide +kernel)) ggX2_keep_X2_nextToWrite
set_option maxRecDepth 20000 in
theorem ggX2_keep_X4_unflipped : GoodIn wsX2_keep wsX4_unflipped := goodIn_r _ [13, 14, 18, 19, 20] (by decide +kernel) (by decide +kernel)
set_option maxRecDepth 20000 in
theorem gX2_keep_X4_unflipped : GoodIn wsX2_keep (wsV RX2 28 RX4 yX4_unflipped wsX4_unflipped) := goodIn_app (goodIn_of _ (by decide +kernel)) ggX2_keep_X4_unflipped
theorem dX2_keep_0 : decode cX2_keep 0 = .ok (.aload_n 0, 1) := by decide +kernel
theorem dX2_keep_1 : decode cX2_keep 1 = .ok (.invokevirtual 24, 3) := by decide +kernel
theorem dX2_keep_4 : decode cX2_keep 4 = .ok (.istore_n 3, 1) := by decide +kernel
theorem dX2_keep_5 : decode cX2_keep 5 = .ok (.iconst 0, 1) := by decide +kernel
theorem dX2_keep_6 : decode cX2_keep 6 = .ok (.istore 4, 2) := by decide +kernel
theorem dX2_keep_8 : decode cX2_keep 8 = .ok (.iload 4, 2) := by decide +kernel
theorem dX2_keep_10 : decode cX2_keep 10 = .ok (.bipush 6, 2) := by decide +kernel
theorem dX2_keep_12 : decode cX2_keep 12 = .ok (.if_icmp .ge 26, 3) := by decide +kernel
theorem dX2_keep_15 : decode cX2_keep 15 = .ok (.aload_n 0, 1) := by decide +kernel
theorem dX2_keep_16 : decode cX2_keep 16 = .ok (.getfield 11, 3) := by decide +kernel
theorem dX2_keep_19 : decode cX2_keep 19 = .ok (.iload_n 3, 1) := by decide +kernel
theorem dX2_keep_20 : decode cX2_keep 20 = .ok (.aaload, 1) := by decide +kernel
theorem dX2_keep_21 : decode cX2_keep 21 = .ok (.iload 4, 2) := by decide +kernel
theorem dX2_keep_23 : decode cX2_keep 23 = .ok (.aload_n 1, 1) := by decide +kernel
theorem dX2_keep_24 : decode cX2_keep 24 = .ok (.iload_n 2, 1) := by decide +kernel
theorem dX2_keep_25 : decode cX2_keep 25 = .ok (.iload 4, 2) := by decide +kernel
theorem dX2_keep_27 : decode cX2_keep 27 = .ok (.iadd, 1) := by decide +kernel
theorem dX2_keep_28 : decode cX2_keep 28 = .ok (.invokevirtual 28, 3) := by decide +kernel
theorem dX2_keep_31 : decode cX2_keep 31 = .ok (.iastore, 1) := by decide +kernel
theorem dX2_keep_32 : decode cX2_keep 32 = .ok (.iinc 4 1, 3) := by decide +kernel
theorem dX2_keep_35 : decode cX2_keep 35 = .ok (.goto (-27), 3) := by decide +kernel
theorem dX2_keep_38 : decode cX2_keep 38 = .ok (.aload_n 0, 1) := by decide +kernel
theorem dX2_keep_39 : decode cX2_keep 39 = .ok (.getfield 16, 3) := by decide +kernel
theorem dX2_keep_42 : decode cX2_keep 42 = .ok (.iload_n 3, 1) := by decide +kernel
theorem dX2_keep_43 : decode cX2_keep 43 = .ok (.iconst 1, 1) := by decide +kernel
theorem dX2_keep_44 : decode cX2_keep 44 = .ok (.bastore, 1) := by decide +kernel
theorem dX2_keep_45 : decode cX2_keep 45 = .ok (.aload_n 0, 1) := by decide +kernel
theorem dX2_keep_46 : decode cX2_keep 46 = .ok (.iload_n 3, 1) := by decide +kernel
theorem dX2_keep_47 : decode cX2_keep 47 = .ok (.putfield 20, 3) := by decide +kernel
theorem dX2_keep_50 : decode cX2_keep 50 = .ok (.return_, 1) := by decide +kernel
set_option maxRecDepth 20000 in
theorem ggX2_restore_X4_put : GoodIn wsX2_restore wsX4_put := goodIn_r _ [7, 8, 9, 13, 14, 15] (by decide +kernel) (by decide +kernel)
set_option maxRecDepth 20000 in
theorem gX2_restore_X4_put : GoodIn wsX2_restore (wsV RX2 34 RX4 yX4_put wsX4_put) := goodIn_app (goodIn_of _ (by decide +kernel)) ggX2_restore_X4_put
theorem dX2_restore_0 : decode cX2_restore 0 = .ok (.aload_n 0, 1) := by decide +kernel
theorem dX2_restore_1 : decode cX2_restore 1 = .ok (.getfield 20, 3) := by decide +kernel
theorem dX2_restore_4 : decode cX2_restore 4 = .ok (.iconst (-1), 1) := by decide +kernel
theorem dX2_restore_5 : decode cX2_restore 5 = .ok (.if_icmp .ne 4, 3) := by decide +kernel
theorem dX2_restore_8 : decode cX2_restore 8 = .ok (.return_, 1) := by decide +kernel
theorem dX2_restore_9 : decode cX2_restore 9 = .ok (.iconst 0, 1) := by decide +kernel
theorem dX2_restore_10 : decode cX2_restore 10 = .ok (.istore_n 3, 1) := by decide +kernel
theorem dX2_restore_11 : decode cX2_restore 11 = .ok (.iload_n 3, 1) := by decide +kernel
theorem dX2_restore_12 : decode cX2_restore 12 = .ok (.bipush 6, 2) := by decide +kernel
theorem dX2_restore_14 : decode cX2_restore 14 = .ok (.if_icmp .ge 27, 3) := by decide +kernel
theorem dX2_restore_17 : decode cX2_restore 17 = .ok (.aload_n 1, 1) := by decide +kernel
theorem dX2_restore_18 : decode cX2_restore 18 = .ok (.iload_n 2, 1) := by decide +kernel
theorem dX2_restore_19 : decode cX2_restore 19 = .ok (.iload_n 3, 1) := by decide +kernel
theorem dX2_restore_20 : decode cX2_restore 20 = .ok (.iadd, 1) := by decide +kernel
theorem dX2_restore_21 : decode cX2_restore 21 = .ok (.aload_n 0, 1) := by decide +kernel
theorem dX2_restore_22 : decode cX2_restore 22 = .ok (.getfield 11, 3) := by decide +kernel
theorem dX2_restore_25 : decode cX2_restore 25 = .ok (.aload_n 0, 1) := by decide +kernel
theorem dX2_restore_26 : decode cX2_restore 26 = .ok (.getfield 20, 3) := by decide +kernel
theorem dX2_restore_29 : decode cX2_restore 29 = .ok (.aaload, 1) := by decide +kernel
theorem dX2_restore_30 : decode cX2_restore 30 = .ok (.iload_n 3, 1) := by decide +kernel
theorem dX2_restore_31 : decode cX2_restore 31 = .ok (.iaload, 1) := by decide +kernel
theorem dX2_restore_32 : decode cX2_restore 32 = .ok (.invokevirtual 34, 3) := by decide +kernel
theorem dX2_restore_35 : decode cX2_restore 35 = .ok (.iinc 3 1, 3) := by decide +kernel
theorem dX2_restore_38 : decode cX2_restore 38 = .ok (.goto (-27), 3) := by decide +kernel
theorem dX2_restore_41 : decode cX2_restore 41 = .ok (.return_, 1) := by decide +kernel
theorem dX2_firstWord_0 : decode cX2_firstWord 0 = .ok (.aload_n 0, 1) := by decide +kernel
theorem dX2_firstWord_1 : decode cX2_firstWord 1 = .ok (.getfield 20, 3) := by decide +kernel
theorem dX2_firstWord_4 : decode cX2_firstWord 4 = .ok (.iconst (-1), 1) := by decide +kernel
theorem dX2_firstWord_5 : decode cX2_firstWord 5 = .ok (.if_icmp .ne 7, 3) := by decide +kernel
theorem dX2_firstWord_8 : decode cX2_firstWord 8 = .ok (.iconst 0, 1) := by decide +kernel
theorem dX2_firstWord_9 : decode cX2_firstWord 9 = .ok (.goto 14, 3) := by decide +kernel
theorem dX2_firstWord_12 : decode cX2_firstWord 12 = .ok (.aload_n 0, 1) := by decide +kernel
theorem dX2_firstWord_13 : decode cX2_firstWord 13 = .ok (.getfield 11, 3) := by decide +kernel
theorem dX2_firstWord_16 : decode cX2_firstWord 16 = .ok (.aload_n 0, 1) := by decide +kernel
theorem dX2_firstWord_17 : decode cX2_firstWord 17 = .ok (.getfield 20, 3) := by decide +kernel
theorem dX2_firstWord_20 : decode cX2_firstWord 20 = .ok (.aaload, 1) := by decide +kernel
theorem dX2_firstWord_21 : decode cX2_firstWord 21 = .ok (.iconst 0, 1) := by decide +kernel
theorem dX2_firstWord_22 : decode cX2_firstWord 22 = .ok (.iaload, 1) := by decide +kernel
theorem dX2_firstWord_23 : decode cX2_firstWord 23 = .ok (.ireturn, 1) := by decide +kernel
theorem dX2_countGood_0 : decode cX2_countGood 0 = .ok (.aload_n 0, 1) := by decide +kernel
theorem dX2_countGood_1 : decode cX2_countGood 1 = .ok (.getfield 16, 3) := by decide +kernel
theorem dX2_countGood_4 : decode cX2_countGood 4 = .ok (.iconst 0, 1) := by decide +kernel
theorem dX2_countGood_5 : decode cX2_countGood 5 = .ok (.baload, 1) := by decide +kernel
theorem dX2_countGood_6 : decode cX2_countGood 6 = .ok (.ifCond .eq 7, 3) := by decide +kernel
theorem dX2_countGood_9 : decode cX2_countGood 9 = .ok (.iconst 1, 1) := by decide +kernel
theorem dX2_countGood_10 : decode cX2_countGood 10 = .ok (.goto 4, 3) := by decide +kernel
theorem dX2_countGood_13 : decode cX2_countGood 13 = .ok (.iconst 0, 1) := by decide +kernel
theorem dX2_countGood_14 : decode cX2_countGood 14 = .ok (.aload_n 0, 1) := by decide +kernel
theorem dX2_countGood_15 : decode cX2_countGood 15 = .ok (.getfield 16, 3) := by decide +kernel
theorem dX2_countGood_18 : decode cX2_countGood 18 = .ok (.iconst 1, 1) := by decide +kernel
theorem dX2_countGood_19 : decode cX2_countGood 19 = .ok (.baload, 1) := by decide +kernel
theorem dX2_countGood_20 : decode cX2_countGood 20 = .ok (.ifCond .eq 7, 3) := by decide +kernel
theorem dX2_countGood_23 : decode cX2_countGood 23 = .ok (.iconst 1, 1) := by decide +kernel
theorem dX2_countGood_24 : decode cX2_countGood 24 = .ok (.goto 4, 3) := by decide +kernel
theorem dX2_countGood_27 : decode cX2_countGood 27 = .ok (.iconst 0, 1) := by decide +kernel
theorem dX2_countGood_28 : decode cX2_countGood 28 = .ok (.iadd, 1) := by decide +kernel
theorem dX2_countGood_29 : decode cX2_countGood 29 = .ok (.ireturn, 1) := by decide +kernel
theorem dX2_nextToWrite_0 : decode cX2_nextToWrite 0 = .ok (.aload_n 0, 1) := by decide +kernel
theorem dX2_nextToWrite_1 : decode cX2_nextToWrite 1 = .ok (.getfield 20, 3) := by decide +kernel
theorem dX2_nextToWrite_4 : decode cX2_nextToWrite 4 = .ok (.ifCond .ne 7, 3) := by decide +kernel
theorem dX2_nextToWrite_7 : decode cX2_nextToWrite 7 = .ok (.iconst 1, 1) := by decide +kernel
theorem dX2_nextToWrite_8 : decode cX2_nextToWrite 8 = .ok (.goto 4, 3) := by decide +kernel
theorem dX2_nextToWrite_11 : decode cX2_nextToWrite 11 = .ok (.iconst 0, 1) := by decide +kernel
theorem dX2_nextToWrite_12 : decode cX2_nextToWrite 12 = .ok (.ireturn, 1) := by decide +kernel
theorem dX3_init_0 : decode cX3_init 0 = .ok (.aload_n 0, 1) := by decide +kernel
theorem dX3_init_1 : decode cX3_init 1 = .ok (.invokespecial 3, 3) := by decide +kernel
theorem dX3_init_4 : decode cX3_init 4 = .ok (.aload_n 0, 1) := by decide +kernel
theorem dX3_init_5 : decode cX3_init 5 = .ok (.bipush 30, 2) := by decide +kernel
theorem dX3_init_7 : decode cX3_init 7 = .ok (.newarray .int, 2) := by decide +kernel
theorem dX3_init_9 : decode cX3_init 9 = .ok (.putfield 9, 3) := by decide +kernel
theorem dX3_init_12 : decode cX3_init 12 = .ok (.aload_n 0, 1) := by decide +kernel
theorem dX3_init_13 : decode cX3_init 13 = .ok (.bipush 30, 2) := by decide +kernel
theorem dX3_init_15 : decode cX3_init 15 = .ok (.newarray .int, 2) := by decide +kernel
theorem dX3_init_17 : decode cX3_init 17 = .ok (.putfield 15, 3) := by decide +kernel
theorem dX3_init_20 : decode cX3_init 20 = .ok (.aload_n 0, 1) := by decide +kernel
theorem dX3_init_21 : decode cX3_init 21 = .ok (.bipush 30, 2) := by decide +kernel
theorem dX3_init_23 : decode cX3_init 23 = .ok (.newarray .char, 2) := by decide +kernel
theorem dX3_init_25 : decode cX3_init 25 = .ok (.putfield 18, 3) := by decide +kernel
theorem dX3_init_28 : decode cX3_init 28 = .ok (.aload_n 0, 1) := by decide +kernel
theorem dX3_init_29 : decode cX3_init 29 = .ok (.iconst 0, 1) := by decide +kernel
theorem dX3_init_30 : decode cX3_init 30 = .ok (.putfield 22, 3) := by decide +kernel
theorem dX3_init_33 : decode cX3_init 33 = .ok (.return_, 1) := by decide +kernel
set_option maxRecDepth 20000 in
theorem ggX3_append_J9_floorMod_7cf53 : GoodIn wsX3_append wsJ9_floorMod_7cf53 := goodIn_r _ [8] (by decide +kernel) (by decide +kernel)
set_option maxRecDepth 20000 in
theorem gX3_append_J9_floorMod_7cf53 : GoodIn wsX3_append (va_wsS RX3 26 yJ9_floorMod_7cf53 wsJ9_floorMod_7cf53) := goodIn_app (goodIn_of _ (by decide +kernel)) ggX3_append_J9_floorMod_7cf53
theorem dX3_append_0 : decode cX3_append 0 = .ok (.aload_n 0, 1) := by decide +kernel
theorem dX3_append_1 : decode cX3_append 1 = .ok (.getfield 22, 3) := by decide +kernel
theorem dX3_append_4 : decode cX3_append 4 = .ok (.bipush 30, 2) := by decide +kernel
theorem dX3_append_6 : decode cX3_append 6 = .ok (.invokestatic 26, 3) := by decide +kernel
theorem dX3_append_9 : decode cX3_append 9 = .ok (.istore 4, 2) := by decide +kernel
theorem dX3_append_11 : decode cX3_append 11 = .ok (.aload_n 0, 1) := by decide +kernel
theorem dX3_append_12 : decode cX3_append 12 = .ok (.getfield 9, 3) := by decide +kernel
theorem dX3_append_15 : decode cX3_append 15 = .ok (.iload 4, 2) := by decide +kernel
theorem dX3_append_17 : decode cX3_append 17 = .ok (.iload_n 1, 1) := by decide +kernel
theorem dX3_append_18 : decode cX3_append 18 = .ok (.iastore, 1) := by decide +kernel
theorem dX3_append_19 : decode cX3_append 19 = .ok (.aload_n 0, 1) := by decide +kernel
theorem dX3_append_20 : decode cX3_append 20 = .ok (.getfield 15, 3) := by decide +kernel
theorem dX3_append_23 : decode cX3_append 23 = .ok (.iload 4, 2) := by decide +kernel
theorem dX3_append_25 : decode cX3_append 25 = .ok (.iload_n 2, 1) := by decide +kernel
theorem dX3_append_26 : decode cX3_append 26 = .ok (.iastore, 1) := by decide +kernel
theorem dX3_append_27 : decode cX3_append 27 = .ok (.aload_n 0, 1) := by decide +kernel
theorem dX3_append_28 : decode cX3_append 28 = .ok (.getfield 18, 3) := by decide +kernel
theorem dX3_append_31 : decode cX3_append 31 = .ok (.iload 4, 2) := by decide +kernel
theorem dX3_append_33 : decode cX3_append 33 = .ok (.iload_n 3, 1) := by decide +kernel
theorem dX3_append_34 : decode cX3_append 34 = .ok (.castore, 1) := by decide +kernel
theorem dX3_append_35 : decode cX3_append 35 = .ok (.aload_n 0, 1) := by decide +kernel
theorem dX3_append_36 : decode cX3_append 36 = .ok (.dup, 1) := by decide +kernel
theorem dX3_append_37 : decode cX3_append 37 = .ok (.getfield 22, 3) := by decide +kernel
theorem dX3_append_40 : decode cX3_append 40 = .ok (.iconst 1, 1) := by decide +kernel
theorem dX3_append_41 : decode cX3_append 41 = .ok (.iadd, 1) := by decide +kernel
theorem dX3_append_42 : decode cX3_append 42 = .ok (.putfield 22, 3) := by decide +kernel
theorem dX3_append_45 : decode cX3_append 45 = .ok (.return_, 1) := by decide +kernel
theorem dX3_countKept_0 : decode cX3_countKept 0 = .ok (.aload_n 0, 1) := by decide +kernel
theorem dX3_countKept_1 : decode cX3_countKept 1 = .ok (.getfield 22, 3) := by decide +kernel
theorem dX3_countKept_4 : decode cX3_countKept 4 = .ok (.bipush 30, 2) := by decide +kernel
theorem dX3_countKept_6 : decode cX3_countKept 6 = .ok (.invokestatic 32, 3) := by decide +kernel
theorem dX3_countKept_9 : decode cX3_countKept 9 = .ok (.ireturn, 1) := by decide +kernel
theorem dX3_wasFull_0 : decode cX3_wasFull 0 = .ok (.aload_n 0, 1) := by decide +kernel
theorem dX3_wasFull_1 : decode cX3_wasFull 1 = .ok (.getfield 22, 3) := by decide +kernel
theorem dX3_wasFull_4 : decode cX3_wasFull 4 = .ok (.bipush 30, 2) := by decide +kernel
theorem dX3_wasFull_6 : decode cX3_wasFull 6 = .ok (.if_icmp .lt 7, 3) := by decide +kernel
theorem dX3_wasFull_9 : decode cX3_wasFull 9 = .ok (.iconst 1, 1) := by decide +kernel
theorem dX3_wasFull_10 : decode cX3_wasFull 10 = .ok (.goto 4, 3) := by decide +kernel
theorem dX3_wasFull_13 : decode cX3_wasFull 13 = .ok (.iconst 0, 1) := by decide +kernel
theorem dX3_wasFull_14 : decode cX3_wasFull 14 = .ok (.ireturn, 1) := by decide +kernel
set_option maxRecDepth 20000 in
theorem ggX3_timeOf_X3_rowOf : GoodIn wsX3_timeOf wsX3_rowOf := goodIn_r _ [6, 7, 8, 9, 10, 11, 12, 13, 14, 15] (by decide +kernel) (by decide +kernel)
set_option maxRecDepth 20000 in
theorem gX3_timeOf_X3_rowOf : GoodIn wsX3_timeOf (wsV RX3 35 RX3 yX3_rowOf wsX3_rowOf) := goodIn_app (goodIn_of _ (by decide +kernel)) ggX3_timeOf_X3_rowOf
theorem dX3_timeOf_0 : decode cX3_timeOf 0 = .ok (.aload_n 0, 1) := by decide +kernel
theorem dX3_timeOf_1 : decode cX3_timeOf 1 = .ok (.getfield 9, 3) := by decide +kernel
theorem dX3_timeOf_4 : decode cX3_timeOf 4 = .ok (.aload_n 0, 1) := by decide +kernel
theorem dX3_timeOf_5 : decode cX3_timeOf 5 = .ok (.iload_n 1, 1) := by decide +kernel
theorem dX3_timeOf_6 : decode cX3_timeOf 6 = .ok (.invokevirtual 35, 3) := by decide +kernel
theorem dX3_timeOf_9 : decode cX3_timeOf 9 = .ok (.iaload, 1) := by decide +kernel
theorem dX3_timeOf_10 : decode cX3_timeOf 10 = .ok (.ireturn, 1) := by decide +kernel
set_option maxRecDepth 20000 in
theorem ggX3_computerOf_X3_rowOf : GoodIn wsX3_computerOf wsX3_rowOf := goodIn_r _ [6, 7, 8, 9, 10, 11, 12, 13, 14, 15] (by decide +kernel) (by decide +kernel)
set_option maxRecDepth 20000 in
theorem gX3_computerOf_X3_rowOf : GoodIn wsX3_computerOf (wsV RX3 35 RX3 yX3_rowOf wsX3_rowOf) := goodIn_app (goodIn_of _ (by decide +kernel)) ggX3_computerOf_X3_rowOf
theorem dX3_computerOf_0 : decode cX3_computerOf 0 = .ok (.aload_n 0, 1) := by decide +kernel
theorem dX3_computerOf_1 : decode cX3_computerOf 1 = .ok (.getfield 15, 3) := by decide +kernel
theorem dX3_computerOf_4 : decode cX3_computerOf 4 = .ok (.aload_n 0, 1) := by decide +kernel
theorem dX3_computerOf_5 : decode cX3_computerOf 5 = .ok (.iload_n 1, 1) := by decide +kernel
theorem dX3_computerOf_6 : decode cX3_computerOf 6 = .ok (.invokevirtual 35, 3) := by decide +kernel
theorem dX3_computerOf_9 : decode cX3_computerOf 9 = .ok (.iaload, 1) := by decide +kernel
theorem dX3_computerOf_10 : decode cX3_computerOf 10 = .ok (.ireturn, 1) := by decide +kernel
set_option maxRecDepth 20000 in
theorem ggX3_letterOf_X3_rowOf : GoodIn wsX3_letterOf wsX3_rowOf := goodIn_r _ [6, 7, 8, 9, 10, 11, 12, 13, 14, 15] (by decide +kernel) (by decide +kernel)
set_option maxRecDepth 20000 in
theorem gX3_letterOf_X3_rowOf : GoodIn wsX3_letterOf (wsV RX3 35 RX3 yX3_rowOf wsX3_rowOf) := goodIn_app (goodIn_of _ (by decide +kernel)) ggX3_letterOf_X3_rowOf
theorem dX3_letterOf_0 : decode cX3_letterOf 0 = .ok (.aload_n 0, 1) := by decide +kernel
theorem dX3_letterOf_1 : decode cX3_letterOf 1 = .ok (.getfield 18, 3) := by decide +kernel
theorem dX3_letterOf_4 : decode cX3_letterOf 4 = .ok (.aload_n 0, 1) := by decide +kernel
theorem dX3_letterOf_5 : decode cX3_letterOf 5 = .ok (.iload_n 1, 1) := by decide +kernel
theorem dX3_letterOf_6 : decode cX3_letterOf 6 = .ok (.invokevirtual 35, 3) := by decide +kernel
theorem dX3_letterOf_9 : decode cX3_letterOf 9 = .ok (.caload, 1) := by decide +kernel
theorem dX3_letterOf_10 : decode cX3_letterOf 10 = .ok (.ireturn, 1) := by decide +kernel
set_option maxRecDepth 20000 in
theorem ggX3_tellsOff_X3_countKept : GoodIn wsX3_tellsOff wsX3_countKept := goodIn_r _ [5, 6, 7, 8, 9, 10, 29, 30, 31, 32] (by decide +kernel) (by decide +kernel)
set_option maxRecDepth 20000 in
theorem gX3_tellsOff_X3_countKept : GoodIn wsX3_tellsOff (wsV RX3 39 RX3 yX3_countKept wsX3_countKept) := goodIn_app (goodIn_of _ (by decide +kernel)) ggX3_tellsOff_X3_countKept
set_option maxRecDepth 20000 in
theorem ggX3_tellsOff_X3_computerOf : GoodIn wsX3_tellsOff wsX3_computerOf := goodIn_r _ [14, 15, 16, 17, 18, 4, 19, 6, 20, 21, 22, 23, 29, 30, 31, 32] (by decide +kernel) (by decide +kernel)
set_option maxRecDepth 20000 in
theorem gX3_tellsOff_X3_computerOf : GoodIn wsX3_tellsOff (wsV RX3 43 RX3 yX3_computerOf wsX3_computerOf) := goodIn_app (goodIn_of _ (by decide +kernel)) ggX3_tellsOff_X3_computerOf
set_option maxRecDepth 20000 in
theorem ggX3_tellsOff_X3_letterOf : GoodIn wsX3_tellsOff wsX3_letterOf := goodIn_r _ [27, 28, 16, 17, 18, 4, 19, 6, 20, 21, 22, 23, 29, 30, 31, 32] (by decide +kernel) (by decide +kernel)
set_option maxRecDepth 20000 in
theorem gX3_tellsOff_X3_letterOf : GoodIn wsX3_tellsOff (wsV RX3 46 RX3 yX3_letterOf wsX3_letterOf) := goodIn_app (goodIn_of _ (by decide +kernel)) ggX3_tellsOff_X3_letterOf
theorem dX3_tellsOff_0 : decode cX3_tellsOff 0 = .ok (.aload_n 0, 1) := by decide +kernel
theorem dX3_tellsOff_1 : decode cX3_tellsOff 1 = .ok (.invokevirtual 39, 3) := by decide +kernel
theorem dX3_tellsOff_4 : decode cX3_tellsOff 4 = .ok (.istore_n 2, 1) := by decide +kernel
theorem dX3_tellsOff_5 : decode cX3_tellsOff 5 = .ok (.iconst 0, 1) := by decide +kernel
theorem dX3_tellsOff_6 : decode cX3_tellsOff 6 = .ok (.istore_n 3, 1) := by decide +kernel
theorem dX3_tellsOff_7 : decode cX3_tellsOff 7 = .ok (.iload_n 3, 1) := by decide +kernel
theorem dX3_tellsOff_8 : decode cX3_tellsOff 8 = .ok (.iload_n 2, 1) := by decide +kernel
theorem dX3_tellsOff_9 : decode cX3_tellsOff 9 = .ok (.if_icmp .ge 34, 3) := by decide +kernel
theorem dX3_tellsOff_12 : decode cX3_tellsOff 12 = .ok (.aload_n 0, 1) := by decide +kernel
theorem dX3_tellsOff_13 : decode cX3_tellsOff 13 = .ok (.iload_n 3, 1) := by decide +kernel
theorem dX3_tellsOff_14 : decode cX3_tellsOff 14 = .ok (.invokevirtual 43, 3) := by decide +kernel
theorem dX3_tellsOff_17 : decode cX3_tellsOff 17 = .ok (.iload_n 1, 1) := by decide +kernel
theorem dX3_tellsOff_18 : decode cX3_tellsOff 18 = .ok (.if_icmp .ne 19, 3) := by decide +kernel
theorem dX3_tellsOff_21 : decode cX3_tellsOff 21 = .ok (.aload_n 0, 1) := by decide +kernel
theorem dX3_tellsOff_22 : decode cX3_tellsOff 22 = .ok (.iload_n 3, 1) := by decide +kernel
theorem dX3_tellsOff_23 : decode cX3_tellsOff 23 = .ok (.invokevirtual 46, 3) := by decide +kernel
theorem dX3_tellsOff_26 : decode cX3_tellsOff 26 = .ok (.bipush 98, 2) := by decide +kernel
theorem dX3_tellsOff_28 : decode cX3_tellsOff 28 = .ok (.if_icmp .eq 7, 3) := by decide +kernel
theorem dX3_tellsOff_31 : decode cX3_tellsOff 31 = .ok (.iconst 1, 1) := by decide +kernel
theorem dX3_tellsOff_32 : decode cX3_tellsOff 32 = .ok (.goto 4, 3) := by decide +kernel
theorem dX3_tellsOff_35 : decode cX3_tellsOff 35 = .ok (.iconst 0, 1) := by decide +kernel
theorem dX3_tellsOff_36 : decode cX3_tellsOff 36 = .ok (.ireturn, 1) := by decide +kernel
theorem dX3_tellsOff_37 : decode cX3_tellsOff 37 = .ok (.iinc 3 1, 3) := by decide +kernel
theorem dX3_tellsOff_40 : decode cX3_tellsOff 40 = .ok (.goto (-33), 3) := by decide +kernel
theorem dX3_tellsOff_43 : decode cX3_tellsOff 43 = .ok (.iconst 0, 1) := by decide +kernel
theorem dX3_tellsOff_44 : decode cX3_tellsOff 44 = .ok (.ireturn, 1) := by decide +kernel
set_option maxRecDepth 20000 in
theorem ggX3_rowOf_J9_floorMod_7cf53 : GoodIn wsX3_rowOf wsJ9_floorMod_7cf53 := goodIn_r _ [5] (by decide +kernel) (by decide +kernel)
set_option maxRecDepth 20000 in
theorem gX3_rowOf_J9_floorMod_7cf53 : GoodIn wsX3_rowOf (va_wsS RX3 26 yJ9_floorMod_7cf53 wsJ9_floorMod_7cf53) := goodIn_app (goodIn_of _ (by decide +kernel)) ggX3_rowOf_J9_floorMod_7cf53
theorem dX3_rowOf_0 : decode cX3_rowOf 0 = .ok (.aload_n 0, 1) := by decide +kernel
theorem dX3_rowOf_1 : decode cX3_rowOf 1 = .ok (.getfield 22, 3) := by decide +kernel
theorem dX3_rowOf_4 : decode cX3_rowOf 4 = .ok (.iconst 1, 1) := by decide +kernel
theorem dX3_rowOf_5 : decode cX3_rowOf 5 = .ok (.isub, 1) := by decide +kernel
theorem dX3_rowOf_6 : decode cX3_rowOf 6 = .ok (.iload_n 1, 1) := by decide +kernel
theorem dX3_rowOf_7 : decode cX3_rowOf 7 = .ok (.isub, 1) := by decide +kernel
theorem dX3_rowOf_8 : decode cX3_rowOf 8 = .ok (.bipush 30, 2) := by decide +kernel
theorem dX3_rowOf_10 : decode cX3_rowOf 10 = .ok (.invokestatic 26, 3) := by decide +kernel
theorem dX3_rowOf_13 : decode cX3_rowOf 13 = .ok (.ireturn, 1) := by decide +kernel
theorem dX4_init_0 : decode cX4_init 0 = .ok (.aload_n 0, 1) := by decide +kernel
theorem dX4_init_1 : decode cX4_init 1 = .ok (.invokespecial 3, 3) := by decide +kernel
theorem dX4_init_4 : decode cX4_init 4 = .ok (.aload_n 0, 1) := by decide +kernel
theorem dX4_init_5 : decode cX4_init 5 = .ok (.bipush 18, 2) := by decide +kernel
theorem dX4_init_7 : decode cX4_init 7 = .ok (.newarray .int, 2) := by decide +kernel
theorem dX4_init_9 : decode cX4_init 9 = .ok (.putfield 9, 3) := by decide +kernel
theorem dX4_init_12 : decode cX4_init 12 = .ok (.aload_n 0, 1) := by decide +kernel
theorem dX4_init_13 : decode cX4_init 13 = .ok (.bipush 18, 2) := by decide +kernel
theorem dX4_init_15 : decode cX4_init 15 = .ok (.newarray .int, 2) := by decide +kernel
theorem dX4_init_17 : decode cX4_init 17 = .ok (.putfield 15, 3) := by decide +kernel
theorem dX4_init_20 : decode cX4_init 20 = .ok (.aload_n 0, 1) := by decide +kernel
theorem dX4_init_21 : decode cX4_init 21 = .ok (.iconst 0, 1) := by decide +kernel
theorem dX4_init_22 : decode cX4_init 22 = .ok (.putfield 18, 3) := by decide +kernel
theorem dX4_init_25 : decode cX4_init 25 = .ok (.return_, 1) := by decide +kernel
set_option maxRecDepth 20000 in
theorem ggX4_seen_X5_round : GoodIn wsX4_seen wsX5_round := goodIn_r _ [6] (by decide +kernel) (by decide +kernel)
set_option maxRecDepth 20000 in
theorem gX4_seen_X5_round : GoodIn wsX4_seen (va_wsS RX4 22 yX5_round wsX5_round) := goodIn_app (goodIn_of _ (by decide +kernel)) ggX4_seen_X5_round
theorem dX4_seen_0 : decode cX4_seen 0 = .ok (.aload_n 0, 1) := by decide +kernel
theorem dX4_seen_1 : decode cX4_seen 1 = .ok (.getfield 9, 3) := by decide +kernel
theorem dX4_seen_4 : decode cX4_seen 4 = .ok (.iload_n 1, 1) := by decide +kernel
theorem dX4_seen_5 : decode cX4_seen 5 = .ok (.iaload, 1) := by decide +kernel
theorem dX4_seen_6 : decode cX4_seen 6 = .ok (.aload_n 0, 1) := by decide +kernel
theorem dX4_seen_7 : decode cX4_seen 7 = .ok (.getfield 15, 3) := by decide +kernel
theorem dX4_seen_10 : decode cX4_seen 10 = .ok (.iload_n 1, 1) := by decide +kernel
theorem dX4_seen_11 : decode cX4_seen 11 = .ok (.iaload, 1) := by decide +kernel
theorem dX4_seen_12 : decode cX4_seen 12 = .ok (.ixor, 1) := by decide +kernel
theorem dX4_seen_13 : decode cX4_seen 13 = .ok (.invokestatic 22, 3) := by decide +kernel
theorem dX4_seen_16 : decode cX4_seen 16 = .ok (.ireturn, 1) := by decide +kernel
theorem dX4_unflipped_0 : decode cX4_unflipped 0 = .ok (.aload_n 0, 1) := by decide +kernel
theorem dX4_unflipped_1 : decode cX4_unflipped 1 = .ok (.getfield 9, 3) := by decide +kernel
theorem dX4_unflipped_4 : decode cX4_unflipped 4 = .ok (.iload_n 1, 1) := by decide +kernel
theorem dX4_unflipped_5 : decode cX4_unflipped 5 = .ok (.iaload, 1) := by decide +kernel
theorem dX4_unflipped_6 : decode cX4_unflipped 6 = .ok (.ireturn, 1) := by decide +kernel
theorem dX4_put_0 : decode cX4_put 0 = .ok (.aload_n 0, 1) := by decide +kernel
theorem dX4_put_1 : decode cX4_put 1 = .ok (.getfield 9, 3) := by decide +kernel
theorem dX4_put_4 : decode cX4_put 4 = .ok (.iload_n 1, 1) := by decide +kernel
theorem dX4_put_5 : decode cX4_put 5 = .ok (.iload_n 2, 1) := by decide +kernel
theorem dX4_put_6 : decode cX4_put 6 = .ok (.iastore, 1) := by decide +kernel
theorem dX4_put_7 : decode cX4_put 7 = .ok (.aload_n 0, 1) := by decide +kernel
theorem dX4_put_8 : decode cX4_put 8 = .ok (.getfield 15, 3) := by decide +kernel
theorem dX4_put_11 : decode cX4_put 11 = .ok (.iload_n 1, 1) := by decide +kernel
theorem dX4_put_12 : decode cX4_put 12 = .ok (.iconst 0, 1) := by decide +kernel
theorem dX4_put_13 : decode cX4_put 13 = .ok (.iastore, 1) := by decide +kernel
theorem dX4_put_14 : decode cX4_put 14 = .ok (.return_, 1) := by decide +kernel
set_option maxRecDepth 20000 in
theorem ggX4_turn_J6_bitCount_0f7a4 : GoodIn wsX4_turn wsJ6_bitCount_0f7a4 := goodIn_r _ [5, 6, 7, 8] (by decide +kernel) (by decide +kernel)
set_option maxRecDepth 20000 in
theorem gX4_turn_J6_bitCount_0f7a4 : GoodIn wsX4_turn (va_wsS RX4 28 yJ6_bitCount_0f7a4 wsJ6_bitCount_0f7a4) := goodIn_app (goodIn_of _ (by decide +kernel)) ggX4_turn_J6_bitCount_0f7a4
theorem dX4_turn_0 : decode cX4_turn 0 = .ok (.aload_n 0, 1) := by decide +kernel
theorem dX4_turn_1 : decode cX4_turn 1 = .ok (.getfield 15, 3) := by decide +kernel
theorem dX4_turn_4 : decode cX4_turn 4 = .ok (.iload_n 1, 1) := by decide +kernel
theorem dX4_turn_5 : decode cX4_turn 5 = .ok (.dup2, 1) := by decide +kernel
theorem dX4_turn_6 : decode cX4_turn 6 = .ok (.iaload, 1) := by decide +kernel
theorem dX4_turn_7 : decode cX4_turn 7 = .ok (.iconst 1, 1) := by decide +kernel
theorem dX4_turn_8 : decode cX4_turn 8 = .ok (.iload_n 2, 1) := by decide +kernel
theorem dX4_turn_9 : decode cX4_turn 9 = .ok (.ishl, 1) := by decide +kernel
theorem dX4_turn_10 : decode cX4_turn 10 = .ok (.ixor, 1) := by decide +kernel
theorem dX4_turn_11 : decode cX4_turn 11 = .ok (.iastore, 1) := by decide +kernel
theorem dX4_turn_12 : decode cX4_turn 12 = .ok (.aload_n 0, 1) := by decide +kernel
theorem dX4_turn_13 : decode cX4_turn 13 = .ok (.getfield 15, 3) := by decide +kernel
theorem dX4_turn_16 : decode cX4_turn 16 = .ok (.iload_n 1, 1) := by decide +kernel
theorem dX4_turn_17 : decode cX4_turn 17 = .ok (.iaload, 1) := by decide +kernel
theorem dX4_turn_18 : decode cX4_turn 18 = .ok (.invokestatic 28, 3) := by decide +kernel
theorem dX4_turn_21 : decode cX4_turn 21 = .ok (.ireturn, 1) := by decide +kernel
set_option maxRecDepth 20000 in
theorem ggX4_mend_J6_bitCount_0f7a4 : GoodIn wsX4_mend wsJ6_bitCount_0f7a4 := goodIn_r _ [6, 7, 8, 9] (by decide +kernel) (by decide +kernel)
set_option maxRecDepth 20000 in
theorem gX4_mend_J6_bitCount_0f7a4 : GoodIn wsX4_mend (va_wsS RX4 28 yJ6_bitCount_0f7a4 wsJ6_bitCount_0f7a4) := goodIn_app (goodIn_of _ (by decide +kernel)) ggX4_mend_J6_bitCount_0f7a4
theorem dX4_mend_0 : decode cX4_mend 0 = .ok (.aload_n 0, 1) := by decide +kernel
theorem dX4_mend_1 : decode cX4_mend 1 = .ok (.getfield 15, 3) := by decide +kernel
theorem dX4_mend_4 : decode cX4_mend 4 = .ok (.iload_n 1, 1) := by decide +kernel
theorem dX4_mend_5 : decode cX4_mend 5 = .ok (.iaload, 1) := by decide +kernel
theorem dX4_mend_6 : decode cX4_mend 6 = .ok (.invokestatic 28, 3) := by decide +kernel
theorem dX4_mend_9 : decode cX4_mend 9 = .ok (.istore_n 2, 1) := by decide +kernel
theorem dX4_mend_10 : decode cX4_mend 10 = .ok (.iload_n 2, 1) := by decide +kernel
theorem dX4_mend_11 : decode cX4_mend 11 = .ok (.iconst 1, 1) := by decide +kernel
theorem dX4_mend_12 : decode cX4_mend 12 = .ok (.if_icmp .le 5, 3) := by decide +kernel
theorem dX4_mend_15 : decode cX4_mend 15 = .ok (.iconst 0, 1) := by decide +kernel
theorem dX4_mend_16 : decode cX4_mend 16 = .ok (.ireturn, 1) := by decide +kernel
theorem dX4_mend_17 : decode cX4_mend 17 = .ok (.aload_n 0, 1) := by decide +kernel
theorem dX4_mend_18 : decode cX4_mend 18 = .ok (.getfield 15, 3) := by decide +kernel
theorem dX4_mend_21 : decode cX4_mend 21 = .ok (.iload_n 1, 1) := by decide +kernel
theorem dX4_mend_22 : decode cX4_mend 22 = .ok (.iconst 0, 1) := by decide +kernel
theorem dX4_mend_23 : decode cX4_mend 23 = .ok (.iastore, 1) := by decide +kernel
theorem dX4_mend_24 : decode cX4_mend 24 = .ok (.aload_n 0, 1) := by decide +kernel
theorem dX4_mend_25 : decode cX4_mend 25 = .ok (.dup, 1) := by decide +kernel
theorem dX4_mend_26 : decode cX4_mend 26 = .ok (.getfield 18, 3) := by decide +kernel
theorem dX4_mend_29 : decode cX4_mend 29 = .ok (.iload_n 2, 1) := by decide +kernel
theorem dX4_mend_30 : decode cX4_mend 30 = .ok (.iadd, 1) := by decide +kernel
theorem dX4_mend_31 : decode cX4_mend 31 = .ok (.putfield 18, 3) := by decide +kernel
theorem dX4_mend_34 : decode cX4_mend 34 = .ok (.iconst 1, 1) := by decide +kernel
theorem dX4_mend_35 : decode cX4_mend 35 = .ok (.ireturn, 1) := by decide +kernel
set_option maxRecDepth 20000 in
theorem ggX4_becomeLike_X4_unflipped : GoodIn wsX4_becomeLike wsX4_unflipped := goodIn_r _ [5, 6, 12, 13, 14] (by decide +kernel) (by decide +kernel)
set_option maxRecDepth 20000 in
theorem gX4_becomeLike_X4_unflipped : GoodIn wsX4_becomeLike (wsV RX4 33 RX4 yX4_unflipped wsX4_unflipped) := goodIn_app (goodIn_of _ (by decide +kernel)) ggX4_becomeLike_X4_unflipped
set_option maxRecDepth 20000 in
theorem ggX4_becomeLike_X4_put : GoodIn wsX4_becomeLike wsX4_put := goodIn_r _ [10, 6, 11, 12, 13, 14] (by decide +kernel) (by decide +kernel)
set_option maxRecDepth 20000 in
theorem gX4_becomeLike_X4_put : GoodIn wsX4_becomeLike (wsV RX4 36 RX4 yX4_put wsX4_put) := goodIn_app (goodIn_of _ (by decide +kernel)) ggX4_becomeLike_X4_put
theorem dX4_becomeLike_0 : decode cX4_becomeLike 0 = .ok (.iconst 0, 1) := by decide +kernel
theorem dX4_becomeLike_1 : decode cX4_becomeLike 1 = .ok (.istore_n 2, 1) := by decide +kernel
theorem dX4_becomeLike_2 : decode cX4_becomeLike 2 = .ok (.iload_n 2, 1) := by decide +kernel
theorem dX4_becomeLike_3 : decode cX4_becomeLike 3 = .ok (.bipush 18, 2) := by decide +kernel
theorem dX4_becomeLike_5 : decode cX4_becomeLike 5 = .ok (.if_icmp .ge 19, 3) := by decide +kernel
theorem dX4_becomeLike_8 : decode cX4_becomeLike 8 = .ok (.aload_n 0, 1) := by decide +kernel
theorem dX4_becomeLike_9 : decode cX4_becomeLike 9 = .ok (.iload_n 2, 1) := by decide +kernel
theorem dX4_becomeLike_10 : decode cX4_becomeLike 10 = .ok (.aload_n 1, 1) := by decide +kernel
theorem dX4_becomeLike_11 : decode cX4_becomeLike 11 = .ok (.iload_n 2, 1) := by decide +kernel
theorem dX4_becomeLike_12 : decode cX4_becomeLike 12 = .ok (.invokevirtual 33, 3) := by decide +kernel
theorem dX4_becomeLike_15 : decode cX4_becomeLike 15 = .ok (.invokevirtual 36, 3) := by decide +kernel
theorem dX4_becomeLike_18 : decode cX4_becomeLike 18 = .ok (.iinc 2 1, 3) := by decide +kernel
theorem dX4_becomeLike_21 : decode cX4_becomeLike 21 = .ok (.goto (-19), 3) := by decide +kernel
theorem dX4_becomeLike_24 : decode cX4_becomeLike 24 = .ok (.return_, 1) := by decide +kernel
theorem dX5_round_0 : decode cX5_round 0 = .ok (.iload_n 0, 1) := by decide +kernel
theorem dX5_round_1 : decode cX5_round 1 = .ok (.i2s, 1) := by decide +kernel
theorem dX5_round_2 : decode cX5_round 2 = .ok (.ireturn, 1) := by decide +kernel
set_option maxRecDepth 20000 in
theorem ggX5_isNumber_X5_isWithin : GoodIn wsX5_isNumber wsX5_isWithin := goodIn_r _ [4] (by decide +kernel) (by decide +kernel)
set_option maxRecDepth 20000 in
theorem gX5_isNumber_X5_isWithin : GoodIn wsX5_isNumber (va_wsS RX5 9 yX5_isWithin wsX5_isWithin) := goodIn_app (goodIn_of _ (by decide +kernel)) ggX5_isNumber_X5_isWithin
theorem dX5_isNumber_0 : decode cX5_isNumber 0 = .ok (.iload_n 0, 1) := by decide +kernel
theorem dX5_isNumber_1 : decode cX5_isNumber 1 = .ok (.sipush (-32768), 3) := by decide +kernel
theorem dX5_isNumber_4 : decode cX5_isNumber 4 = .ok (.sipush 32767, 3) := by decide +kernel
theorem dX5_isNumber_7 : decode cX5_isNumber 7 = .ok (.invokestatic 9, 3) := by decide +kernel
theorem dX5_isNumber_10 : decode cX5_isNumber 10 = .ok (.ireturn, 1) := by decide +kernel
theorem dX5_isWithin_0 : decode cX5_isWithin 0 = .ok (.iload_n 0, 1) := by decide +kernel
theorem dX5_isWithin_1 : decode cX5_isWithin 1 = .ok (.iload_n 1, 1) := by decide +kernel
theorem dX5_isWithin_2 : decode cX5_isWithin 2 = .ok (.if_icmp .lt 12, 3) := by decide +kernel
theorem dX5_isWithin_5 : decode cX5_isWithin 5 = .ok (.iload_n 0, 1) := by decide +kernel
theorem dX5_isWithin_6 : decode cX5_isWithin 6 = .ok (.iload_n 2, 1) := by decide +kernel
theorem dX5_isWithin_7 : decode cX5_isWithin 7 = .ok (.if_icmp .gt 7, 3) := by decide +kernel
theorem dX5_isWithin_10 : decode cX5_isWithin 10 = .ok (.iconst 1, 1) := by decide +kernel
theorem dX5_isWithin_11 : decode cX5_isWithin 11 = .ok (.goto 4, 3) := by decide +kernel
theorem dX5_isWithin_14 : decode cX5_isWithin 14 = .ok (.iconst 0, 1) := by decide +kernel
theorem dX5_isWithin_15 : decode cX5_isWithin 15 = .ok (.ireturn, 1) := by decide +kernel
theorem dX5_middle_0 : decode cX5_middle 0 = .ok (.iload_n 0, 1) := by decide +kernel
theorem dX5_middle_1 : decode cX5_middle 1 = .ok (.iload_n 1, 1) := by decide +kernel
theorem dX5_middle_2 : decode cX5_middle 2 = .ok (.invokestatic 15, 3) := by decide +kernel
theorem dX5_middle_5 : decode cX5_middle 5 = .ok (.iload_n 0, 1) := by decide +kernel
theorem dX5_middle_6 : decode cX5_middle 6 = .ok (.iload_n 1, 1) := by decide +kernel
theorem dX5_middle_7 : decode cX5_middle 7 = .ok (.invokestatic 21, 3) := by decide +kernel
theorem dX5_middle_10 : decode cX5_middle 10 = .ok (.iload_n 2, 1) := by decide +kernel
theorem dX5_middle_11 : decode cX5_middle 11 = .ok (.invokestatic 15, 3) := by decide +kernel
theorem dX5_middle_14 : decode cX5_middle 14 = .ok (.invokestatic 21, 3) := by decide +kernel
theorem dX5_middle_17 : decode cX5_middle 17 = .ok (.ireturn, 1) := by decide +kernel
theorem dX6_init_0 : decode cX6_init 0 = .ok (.aload_n 0, 1) := by decide +kernel
theorem dX6_init_1 : decode cX6_init 1 = .ok (.invokespecial 3, 3) := by decide +kernel
theorem dX6_init_4 : decode cX6_init 4 = .ok (.aload_n 0, 1) := by decide +kernel
theorem dX6_init_5 : decode cX6_init 5 = .ok (.bipush 10, 2) := by decide +kernel
theorem dX6_init_7 : decode cX6_init 7 = .ok (.newarray .char, 2) := by decide +kernel
theorem dX6_init_9 : decode cX6_init 9 = .ok (.putfield 9, 3) := by decide +kernel
theorem dX6_init_12 : decode cX6_init 12 = .ok (.aload_n 0, 1) := by decide +kernel
theorem dX6_init_13 : decode cX6_init 13 = .ok (.bipush 10, 2) := by decide +kernel
theorem dX6_init_15 : decode cX6_init 15 = .ok (.newarray .int, 2) := by decide +kernel
theorem dX6_init_17 : decode cX6_init 17 = .ok (.putfield 15, 3) := by decide +kernel
theorem dX6_init_20 : decode cX6_init 20 = .ok (.aload_n 0, 1) := by decide +kernel
theorem dX6_init_21 : decode cX6_init 21 = .ok (.bipush 10, 2) := by decide +kernel
theorem dX6_init_23 : decode cX6_init 23 = .ok (.newarray .int, 2) := by decide +kernel
theorem dX6_init_25 : decode cX6_init 25 = .ok (.putfield 19, 3) := by decide +kernel
theorem dX6_init_28 : decode cX6_init 28 = .ok (.aload_n 0, 1) := by decide +kernel
theorem dX6_init_29 : decode cX6_init 29 = .ok (.iconst 0, 1) := by decide +kernel
theorem dX6_init_30 : decode cX6_init 30 = .ok (.putfield 22, 3) := by decide +kernel
theorem dX6_init_33 : decode cX6_init 33 = .ok (.aload_n 0, 1) := by decide +kernel
theorem dX6_init_34 : decode cX6_init 34 = .ok (.iconst 0, 1) := by decide +kernel
theorem dX6_init_35 : decode cX6_init 35 = .ok (.putfield 26, 3) := by decide +kernel
theorem dX6_init_38 : decode cX6_init 38 = .ok (.return_, 1) := by decide +kernel
set_option maxRecDepth 20000 in
theorem ggX6_isInstruction_X5_isWithin : GoodIn wsX6_isInstruction wsX5_isWithin := goodIn_r _ [4] (by decide +kernel) (by decide +kernel)
set_option maxRecDepth 20000 in
theorem gX6_isInstruction_X5_isWithin : GoodIn wsX6_isInstruction (va_wsS RX6 29 yX5_isWithin wsX5_isWithin) := goodIn_app (goodIn_of _ (by decide +kernel)) ggX6_isInstruction_X5_isWithin
set_option maxRecDepth 20000 in
theorem ggX6_isInstruction_X5_isNumber : GoodIn wsX6_isInstruction wsX5_isNumber := goodIn_r _ [7, 8, 2, 3, 4] (by decide +kernel) (by decide +kernel)
set_option maxRecDepth 20000 in
theorem gX6_isInstruction_X5_isNumber : GoodIn wsX6_isInstruction (va_wsS RX6 35 yX5_isNumber wsX5_isNumber) := goodIn_app (goodIn_of _ (by decide +kernel)) ggX6_isInstruction_X5_isNumber
theorem dX6_isInstruction_0 : decode cX6_isInstruction 0 = .ok (.iload_n 1, 1) := by decide +kernel
theorem dX6_isInstruction_1 : decode cX6_isInstruction 1 = .ok (.iconst 0, 1) := by decide +kernel
theorem dX6_isInstruction_2 : decode cX6_isInstruction 2 = .ok (.iconst 3, 1) := by decide +kernel
theorem dX6_isInstruction_3 : decode cX6_isInstruction 3 = .ok (.invokestatic 29, 3) := by decide +kernel
theorem dX6_isInstruction_6 : decode cX6_isInstruction 6 = .ok (.ifCond .ne 5, 3) := by decide +kernel
theorem dX6_isInstruction_9 : decode cX6_isInstruction 9 = .ok (.iconst 0, 1) := by decide +kernel
theorem dX6_isInstruction_10 : decode cX6_isInstruction 10 = .ok (.ireturn, 1) := by decide +kernel
theorem dX6_isInstruction_11 : decode cX6_isInstruction 11 = .ok (.iload_n 0, 1) := by decide +kernel
theorem dX6_isInstruction_12 : decode cX6_isInstruction 12 = .ok (.tableswitch 133 97 115 #[97, 133, 133, 133, 133, 133, 133, 133, 111, 125, 133, 92, 104, 133, 118, 133, 133, 104, 97], 92) := by decide +kernel
theorem dX6_isInstruction_104 : decode cX6_isInstruction 104 = .ok (.iload_n 2, 1) := by decide +kernel
theorem dX6_isInstruction_105 : decode cX6_isInstruction 105 = .ok (.invokestatic 35, 3) := by decide +kernel
theorem dX6_isInstruction_108 : decode cX6_isInstruction 108 = .ok (.ireturn, 1) := by decide +kernel
theorem dX6_isInstruction_109 : decode cX6_isInstruction 109 = .ok (.iload_n 2, 1) := by decide +kernel
theorem dX6_isInstruction_110 : decode cX6_isInstruction 110 = .ok (.iconst 0, 1) := by decide +kernel
theorem dX6_isInstruction_111 : decode cX6_isInstruction 111 = .ok (.iconst 3, 1) := by decide +kernel
theorem dX6_isInstruction_112 : decode cX6_isInstruction 112 = .ok (.invokestatic 29, 3) := by decide +kernel
theorem dX6_isInstruction_115 : decode cX6_isInstruction 115 = .ok (.ireturn, 1) := by decide +kernel
theorem dX6_isInstruction_116 : decode cX6_isInstruction 116 = .ok (.iload_n 2, 1) := by decide +kernel
theorem dX6_isInstruction_117 : decode cX6_isInstruction 117 = .ok (.iconst 0, 1) := by decide +kernel
theorem dX6_isInstruction_118 : decode cX6_isInstruction 118 = .ok (.iconst 5, 1) := by decide +kernel
theorem dX6_isInstruction_119 : decode cX6_isInstruction 119 = .ok (.invokestatic 29, 3) := by decide +kernel
theorem dX6_isInstruction_122 : decode cX6_isInstruction 122 = .ok (.ireturn, 1) := by decide +kernel
theorem dX6_isInstruction_123 : decode cX6_isInstruction 123 = .ok (.iload_n 2, 1) := by decide +kernel
theorem dX6_isInstruction_124 : decode cX6_isInstruction 124 = .ok (.iconst 0, 1) := by decide +kernel
theorem dX6_isInstruction_125 : decode cX6_isInstruction 125 = .ok (.iconst 3, 1) := by decide +kernel
theorem dX6_isInstruction_126 : decode cX6_isInstruction 126 = .ok (.invokestatic 29, 3) := by decide +kernel
theorem dX6_isInstruction_129 : decode cX6_isInstruction 129 = .ok (.ireturn, 1) := by decide +kernel
theorem dX6_isInstruction_130 : decode cX6_isInstruction 130 = .ok (.iload_n 2, 1) := by decide +kernel
theorem dX6_isInstruction_131 : decode cX6_isInstruction 131 = .ok (.iconst 0, 1) := by decide +kernel
theorem dX6_isInstruction_132 : decode cX6_isInstruction 132 = .ok (.iconst 3, 1) := by decide +kernel
theorem dX6_isInstruction_133 : decode cX6_isInstruction 133 = .ok (.invokestatic 29, 3) := by decide +kernel
theorem dX6_isInstruction_136 : decode cX6_isInstruction 136 = .ok (.ireturn, 1) := by decide +kernel
theorem dX6_isInstruction_137 : decode cX6_isInstruction 137 = .ok (.iload_n 2, 1) := by decide +kernel
theorem dX6_isInstruction_138 : decode cX6_isInstruction 138 = .ok (.iconst 0, 1) := by decide +kernel
theorem dX6_isInstruction_139 : decode cX6_isInstruction 139 = .ok (.bipush 9, 2) := by decide +kernel
theorem dX6_isInstruction_141 : decode cX6_isInstruction 141 = .ok (.invokestatic 29, 3) := by decide +kernel
theorem dX6_isInstruction_144 : decode cX6_isInstruction 144 = .ok (.ireturn, 1) := by decide +kernel
theorem dX6_isInstruction_145 : decode cX6_isInstruction 145 = .ok (.iconst 0, 1) := by decide +kernel
theorem dX6_isInstruction_146 : decode cX6_isInstruction 146 = .ok (.ireturn, 1) := by decide +kernel
theorem dX6_append_0 : decode cX6_append 0 = .ok (.aload_n 0, 1) := by decide +kernel
theorem dX6_append_1 : decode cX6_append 1 = .ok (.getfield 22, 3) := by decide +kernel
theorem dX6_append_4 : decode cX6_append 4 = .ok (.bipush 10, 2) := by decide +kernel
theorem dX6_append_6 : decode cX6_append 6 = .ok (.if_icmp .ge 43, 3) := by decide +kernel
theorem dX6_append_9 : decode cX6_append 9 = .ok (.aload_n 0, 1) := by decide +kernel
theorem dX6_append_10 : decode cX6_append 10 = .ok (.getfield 9, 3) := by decide +kernel
theorem dX6_append_13 : decode cX6_append 13 = .ok (.aload_n 0, 1) := by decide +kernel
theorem dX6_append_14 : decode cX6_append 14 = .ok (.getfield 22, 3) := by decide +kernel
theorem dX6_append_17 : decode cX6_append 17 = .ok (.iload_n 1, 1) := by decide +kernel
theorem dX6_append_18 : decode cX6_append 18 = .ok (.castore, 1) := by decide +kernel
theorem dX6_append_19 : decode cX6_append 19 = .ok (.aload_n 0, 1) := by decide +kernel
theorem dX6_append_20 : decode cX6_append 20 = .ok (.getfield 15, 3) := by decide +kernel
theorem dX6_append_23 : decode cX6_append 23 = .ok (.aload_n 0, 1) := by decide +kernel
theorem dX6_append_24 : decode cX6_append 24 = .ok (.getfield 22, 3) := by decide +kernel
theorem dX6_append_27 : decode cX6_append 27 = .ok (.iload_n 2, 1) := by decide +kernel
theorem dX6_append_28 : decode cX6_append 28 = .ok (.iastore, 1) := by decide +kernel
theorem dX6_append_29 : decode cX6_append 29 = .ok (.aload_n 0, 1) := by decide +kernel
theorem dX6_append_30 : decode cX6_append 30 = .ok (.getfield 19, 3) := by decide +kernel
theorem dX6_append_33 : decode cX6_append 33 = .ok (.aload_n 0, 1) := by decide +kernel
theorem dX6_append_34 : decode cX6_append 34 = .ok (.getfield 22, 3) := by decide +kernel
theorem dX6_append_37 : decode cX6_append 37 = .ok (.iload_n 3, 1) := by decide +kernel
theorem dX6_append_38 : decode cX6_append 38 = .ok (.iastore, 1) := by decide +kernel
theorem dX6_append_39 : decode cX6_append 39 = .ok (.aload_n 0, 1) := by decide +kernel
theorem dX6_append_40 : decode cX6_append 40 = .ok (.dup, 1) := by decide +kernel
theorem dX6_append_41 : decode cX6_append 41 = .ok (.getfield 22, 3) := by decide +kernel
theorem dX6_append_44 : decode cX6_append 44 = .ok (.iconst 1, 1) := by decide +kernel
theorem dX6_append_45 : decode cX6_append 45 = .ok (.iadd, 1) := by decide +kernel
theorem dX6_append_46 : decode cX6_append 46 = .ok (.putfield 22, 3) := by decide +kernel
theorem dX6_append_49 : decode cX6_append 49 = .ok (.aload_n 0, 1) := by decide +kernel
theorem dX6_append_50 : decode cX6_append 50 = .ok (.getfield 22, 3) := by decide +kernel
theorem dX6_append_53 : decode cX6_append 53 = .ok (.ireturn, 1) := by decide +kernel
theorem dX7_init_0 : decode cX7_init 0 = .ok (.aload_n 0, 1) := by decide +kernel
theorem dX7_init_1 : decode cX7_init 1 = .ok (.invokespecial 3, 3) := by decide +kernel
theorem dX7_init_4 : decode cX7_init 4 = .ok (.aload_n 0, 1) := by decide +kernel
theorem dX7_init_5 : decode cX7_init 5 = .ok (.iconst 0, 1) := by decide +kernel
theorem dX7_init_6 : decode cX7_init 6 = .ok (.putfield 9, 3) := by decide +kernel
theorem dX7_init_9 : decode cX7_init 9 = .ok (.aload_n 0, 1) := by decide +kernel
theorem dX7_init_10 : decode cX7_init 10 = .ok (.sipush 32767, 3) := by decide +kernel
theorem dX7_init_13 : decode cX7_init 13 = .ok (.putfield 15, 3) := by decide +kernel
theorem dX7_init_16 : decode cX7_init 16 = .ok (.aload_n 0, 1) := by decide +kernel
theorem dX7_init_17 : decode cX7_init 17 = .ok (.iconst 0, 1) := by decide +kernel
theorem dX7_init_18 : decode cX7_init 18 = .ok (.putfield 18, 3) := by decide +kernel
theorem dX7_init_21 : decode cX7_init 21 = .ok (.aload_n 0, 1) := by decide +kernel
theorem dX7_init_22 : decode cX7_init 22 = .ok (.iconst 0, 1) := by decide +kernel
theorem dX7_init_23 : decode cX7_init 23 = .ok (.putfield 21, 3) := by decide +kernel
theorem dX7_init_26 : decode cX7_init 26 = .ok (.return_, 1) := by decide +kernel
theorem dX7_agree_0 : decode cX7_agree 0 = .ok (.aload_n 0, 1) := by decide +kernel
theorem dX7_agree_1 : decode cX7_agree 1 = .ok (.getfield 9, 3) := by decide +kernel
theorem dX7_agree_4 : decode cX7_agree 4 = .ok (.aload_n 0, 1) := by decide +kernel
theorem dX7_agree_5 : decode cX7_agree 5 = .ok (.getfield 18, 3) := by decide +kernel
theorem dX7_agree_8 : decode cX7_agree 8 = .ok (.isub, 1) := by decide +kernel
theorem dX7_agree_9 : decode cX7_agree 9 = .ok (.invokestatic 24, 3) := by decide +kernel
theorem dX7_agree_12 : decode cX7_agree 12 = .ok (.aload_n 0, 1) := by decide +kernel
theorem dX7_agree_13 : decode cX7_agree 13 = .ok (.getfield 15, 3) := by decide +kernel
theorem dX7_agree_16 : decode cX7_agree 16 = .ok (.if_icmp .le 7, 3) := by decide +kernel
theorem dX7_agree_19 : decode cX7_agree 19 = .ok (.iconst 1, 1) := by decide +kernel
theorem dX7_agree_20 : decode cX7_agree 20 = .ok (.goto 4, 3) := by decide +kernel
theorem dX7_agree_23 : decode cX7_agree 23 = .ok (.iconst 0, 1) := by decide +kernel
theorem dX7_agree_24 : decode cX7_agree 24 = .ok (.istore_n 1, 1) := by decide +kernel
theorem dX7_agree_25 : decode cX7_agree 25 = .ok (.aload_n 0, 1) := by decide +kernel
theorem dX7_agree_26 : decode cX7_agree 26 = .ok (.iload_n 1, 1) := by decide +kernel
theorem dX7_agree_27 : decode cX7_agree 27 = .ok (.ifCond .eq 12, 3) := by decide +kernel
theorem dX7_agree_30 : decode cX7_agree 30 = .ok (.aload_n 0, 1) := by decide +kernel
theorem dX7_agree_31 : decode cX7_agree 31 = .ok (.getfield 21, 3) := by decide +kernel
theorem dX7_agree_34 : decode cX7_agree 34 = .ok (.iconst 1, 1) := by decide +kernel
theorem dX7_agree_35 : decode cX7_agree 35 = .ok (.iadd, 1) := by decide +kernel
theorem dX7_agree_36 : decode cX7_agree 36 = .ok (.goto 4, 3) := by decide +kernel
theorem dX7_agree_39 : decode cX7_agree 39 = .ok (.iconst 0, 1) := by decide +kernel
theorem dX7_agree_40 : decode cX7_agree 40 = .ok (.putfield 21, 3) := by decide +kernel
theorem dX7_agree_43 : decode cX7_agree 43 = .ok (.iload_n 1, 1) := by decide +kernel
theorem dX7_agree_44 : decode cX7_agree 44 = .ok (.ifCond .eq 11, 3) := by decide +kernel
theorem dX7_agree_47 : decode cX7_agree 47 = .ok (.aload_n 0, 1) := by decide +kernel
theorem dX7_agree_48 : decode cX7_agree 48 = .ok (.getfield 21, 3) := by decide +kernel
theorem dX7_agree_51 : decode cX7_agree 51 = .ok (.iconst 3, 1) := by decide +kernel
theorem dX7_agree_52 : decode cX7_agree 52 = .ok (.if_icmp .lt 16, 3) := by decide +kernel
theorem dX7_agree_55 : decode cX7_agree 55 = .ok (.aload_n 0, 1) := by decide +kernel
theorem dX7_agree_56 : decode cX7_agree 56 = .ok (.aload_n 0, 1) := by decide +kernel
theorem dX7_agree_57 : decode cX7_agree 57 = .ok (.getfield 9, 3) := by decide +kernel
theorem dX7_agree_60 : decode cX7_agree 60 = .ok (.putfield 18, 3) := by decide +kernel
theorem dX7_agree_63 : decode cX7_agree 63 = .ok (.aload_n 0, 1) := by decide +kernel
theorem dX7_agree_64 : decode cX7_agree 64 = .ok (.iconst 0, 1) := by decide +kernel
theorem dX7_agree_65 : decode cX7_agree 65 = .ok (.putfield 21, 3) := by decide +kernel
theorem dX7_agree_68 : decode cX7_agree 68 = .ok (.return_, 1) := by decide +kernel
set_option maxRecDepth 20000 in
theorem ggX8_init_X1_init : GoodIn wsX8_init wsX1_init := goodIn_r _ [41, 42, 2, 3, 43, 44, 45, 46, 14, 47, 48, 49, 50, 51, 52, 53, 54, 55, 56, 57, 58, 59, 60, 61, 62, 63, 64, 65, 152, 153, 154, 119, 120, 121, 122, 123, 124, 125, 126, 127, 128, 129, 130, 131, 132] (by decide +kernel) (by decide +kernel)
set_option maxRecDepth 20000 in
theorem gX8_init_X1_init_n15 : GoodIn wsX8_init (wsX1_init) := ggX8_init_X1_init
set_option maxRecDepth 20000 in
theorem ggX8_init_X3_init : GoodIn wsX8_init wsX3_init := goodIn_r _ [67, 68, 2, 3, 14, 69, 70, 71, 72, 73, 133, 134, 135, 136] (by decide +kernel) (by decide +kernel)
set_option maxRecDepth 20000 in
theorem gX8_init_X3_init_n58 : GoodIn wsX8_init (wsX3_init) := ggX8_init_X3_init
set_option maxRecDepth 20000 in
theorem ggX8_init_X6_init : GoodIn wsX8_init wsX6_init := goodIn_r _ [75, 76, 2, 3, 71, 77, 14, 78, 79, 80, 81, 137, 138, 139, 140, 141] (by decide +kernel) (by decide +kernel)
set_option maxRecDepth 20000 in
theorem gX8_init_X6_init_n84 : GoodIn wsX8_init (wsX6_init) := ggX8_init_X6_init
set_option maxRecDepth 20000 in
theorem ggX8_init_X2_init : GoodIn wsX8_init wsX2_init := goodIn_r _ [83, 84, 2, 3, 85, 14, 86, 87, 88, 89, 142, 143, 144] (by decide +kernel) (by decide +kernel)
set_option maxRecDepth 20000 in
theorem gX8_init_X2_init_n85 : GoodIn wsX8_init (wsX2_init) := ggX8_init_X2_init
set_option maxRecDepth 20000 in
theorem ggX8_init_X7_init : GoodIn wsX8_init wsX7_init := goodIn_r _ [91, 92, 2, 3, 93, 94, 95, 96, 145, 146, 147, 148] (by decide +kernel) (by decide +kernel)
set_option maxRecDepth 20000 in
theorem gX8_init_X7_init_n86 : GoodIn wsX8_init (wsX7_init) := ggX8_init_X7_init
set_option maxRecDepth 20000 in
theorem ggX8_init_X0_init : GoodIn wsX8_init wsX0_init := goodIn_r _ [98, 99, 2, 3, 14, 100, 101, 102, 149, 150, 151] (by decide +kernel) (by decide +kernel)
set_option maxRecDepth 20000 in
theorem gX8_init_X0_init_n87 : GoodIn wsX8_init (wsX0_init) := ggX8_init_X0_init
theorem dJ6_bitCount_0f7a4_0 : decode cJ6_bitCount_0f7a4 0 = .ok (.iload_n 0, 1) := by decide +kernel
theorem dJ6_bitCount_0f7a4_1 : decode cJ6_bitCount_0f7a4 1 = .ok (.iload_n 0, 1) := by decide +kernel
theorem dJ6_bitCount_0f7a4_2 : decode cJ6_bitCount_0f7a4 2 = .ok (.iconst 1, 1) := by decide +kernel
theorem dJ6_bitCount_0f7a4_3 : decode cJ6_bitCount_0f7a4 3 = .ok (.iushr, 1) := by decide +kernel
theorem dJ6_bitCount_0f7a4_4 : decode cJ6_bitCount_0f7a4 4 = .ok (.ldc_w 265, 3) := by decide +kernel
theorem dJ6_bitCount_0f7a4_7 : decode cJ6_bitCount_0f7a4 7 = .ok (.iand, 1) := by decide +kernel
theorem dJ6_bitCount_0f7a4_8 : decode cJ6_bitCount_0f7a4 8 = .ok (.isub, 1) := by decide +kernel
theorem dJ6_bitCount_0f7a4_9 : decode cJ6_bitCount_0f7a4 9 = .ok (.istore_n 0, 1) := by decide +kernel
theorem dJ6_bitCount_0f7a4_10 : decode cJ6_bitCount_0f7a4 10 = .ok (.iload_n 0, 1) := by decide +kernel
theorem dJ6_bitCount_0f7a4_11 : decode cJ6_bitCount_0f7a4 11 = .ok (.ldc_w 266, 3) := by decide +kernel
theorem dJ6_bitCount_0f7a4_14 : decode cJ6_bitCount_0f7a4 14 = .ok (.iand, 1) := by decide +kernel
theorem dJ6_bitCount_0f7a4_15 : decode cJ6_bitCount_0f7a4 15 = .ok (.iload_n 0, 1) := by decide +kernel
theorem dJ6_bitCount_0f7a4_16 : decode cJ6_bitCount_0f7a4 16 = .ok (.iconst 2, 1) := by decide +kernel
theorem dJ6_bitCount_0f7a4_17 : decode cJ6_bitCount_0f7a4 17 = .ok (.iushr, 1) := by decide +kernel
theorem dJ6_bitCount_0f7a4_18 : decode cJ6_bitCount_0f7a4 18 = .ok (.ldc_w 266, 3) := by decide +kernel
theorem dJ6_bitCount_0f7a4_21 : decode cJ6_bitCount_0f7a4 21 = .ok (.iand, 1) := by decide +kernel
theorem dJ6_bitCount_0f7a4_22 : decode cJ6_bitCount_0f7a4 22 = .ok (.iadd, 1) := by decide +kernel
theorem dJ6_bitCount_0f7a4_23 : decode cJ6_bitCount_0f7a4 23 = .ok (.istore_n 0, 1) := by decide +kernel
theorem dJ6_bitCount_0f7a4_24 : decode cJ6_bitCount_0f7a4 24 = .ok (.iload_n 0, 1) := by decide +kernel
theorem dJ6_bitCount_0f7a4_25 : decode cJ6_bitCount_0f7a4 25 = .ok (.iload_n 0, 1) := by decide +kernel
theorem dJ6_bitCount_0f7a4_26 : decode cJ6_bitCount_0f7a4 26 = .ok (.iconst 4, 1) := by decide +kernel
theorem dJ6_bitCount_0f7a4_27 : decode cJ6_bitCount_0f7a4 27 = .ok (.iushr, 1) := by decide +kernel
theorem dJ6_bitCount_0f7a4_28 : decode cJ6_bitCount_0f7a4 28 = .ok (.iadd, 1) := by decide +kernel
theorem dJ6_bitCount_0f7a4_29 : decode cJ6_bitCount_0f7a4 29 = .ok (.ldc_w 267, 3) := by decide +kernel
theorem dJ6_bitCount_0f7a4_32 : decode cJ6_bitCount_0f7a4 32 = .ok (.iand, 1) := by decide +kernel
theorem dJ6_bitCount_0f7a4_33 : decode cJ6_bitCount_0f7a4 33 = .ok (.istore_n 0, 1) := by decide +kernel
theorem dJ6_bitCount_0f7a4_34 : decode cJ6_bitCount_0f7a4 34 = .ok (.iload_n 0, 1) := by decide +kernel
theorem dJ6_bitCount_0f7a4_35 : decode cJ6_bitCount_0f7a4 35 = .ok (.iload_n 0, 1) := by decide +kernel
theorem dJ6_bitCount_0f7a4_36 : decode cJ6_bitCount_0f7a4 36 = .ok (.bipush 8, 2) := by decide +kernel
theorem dJ6_bitCount_0f7a4_38 : decode cJ6_bitCount_0f7a4 38 = .ok (.iushr, 1) := by decide +kernel
theorem dJ6_bitCount_0f7a4_39 : decode cJ6_bitCount_0f7a4 39 = .ok (.iadd, 1) := by decide +kernel
theorem dJ6_bitCount_0f7a4_40 : decode cJ6_bitCount_0f7a4 40 = .ok (.istore_n 0, 1) := by decide +kernel
theorem dJ6_bitCount_0f7a4_41 : decode cJ6_bitCount_0f7a4 41 = .ok (.iload_n 0, 1) := by decide +kernel
theorem dJ6_bitCount_0f7a4_42 : decode cJ6_bitCount_0f7a4 42 = .ok (.iload_n 0, 1) := by decide +kernel
theorem dJ6_bitCount_0f7a4_43 : decode cJ6_bitCount_0f7a4 43 = .ok (.bipush 16, 2) := by decide +kernel
theorem dJ6_bitCount_0f7a4_45 : decode cJ6_bitCount_0f7a4 45 = .ok (.iushr, 1) := by decide +kernel
theorem dJ6_bitCount_0f7a4_46 : decode cJ6_bitCount_0f7a4 46 = .ok (.iadd, 1) := by decide +kernel
theorem dJ6_bitCount_0f7a4_47 : decode cJ6_bitCount_0f7a4 47 = .ok (.istore_n 0, 1) := by decide +kernel
theorem dJ6_bitCount_0f7a4_48 : decode cJ6_bitCount_0f7a4 48 = .ok (.iload_n 0, 1) := by decide +kernel
theorem dJ6_bitCount_0f7a4_49 : decode cJ6_bitCount_0f7a4 49 = .ok (.bipush 63, 2) := by decide +kernel
theorem dJ6_bitCount_0f7a4_51 : decode cJ6_bitCount_0f7a4 51 = .ok (.iand, 1) := by decide +kernel
theorem dJ6_bitCount_0f7a4_52 : decode cJ6_bitCount_0f7a4 52 = .ok (.ireturn, 1) := by decide +kernel
theorem dJ9_floorMod_7cf53_0 : decode cJ9_floorMod_7cf53 0 = .ok (.iload_n 0, 1) := by decide +kernel
theorem dJ9_floorMod_7cf53_1 : decode cJ9_floorMod_7cf53 1 = .ok (.iload_n 1, 1) := by decide +kernel
theorem dJ9_floorMod_7cf53_2 : decode cJ9_floorMod_7cf53 2 = .ok (.irem, 1) := by decide +kernel
theorem dJ9_floorMod_7cf53_3 : decode cJ9_floorMod_7cf53 3 = .ok (.istore_n 2, 1) := by decide +kernel
theorem dJ9_floorMod_7cf53_4 : decode cJ9_floorMod_7cf53 4 = .ok (.iload_n 0, 1) := by decide +kernel
theorem dJ9_floorMod_7cf53_5 : decode cJ9_floorMod_7cf53 5 = .ok (.iload_n 1, 1) := by decide +kernel
theorem dJ9_floorMod_7cf53_6 : decode cJ9_floorMod_7cf53 6 = .ok (.ixor, 1) := by decide +kernel
theorem dJ9_floorMod_7cf53_7 : decode cJ9_floorMod_7cf53 7 = .ok (.ifCond .ge 11, 3) := by decide +kernel
theorem dJ9_floorMod_7cf53_10 : decode cJ9_floorMod_7cf53 10 = .ok (.iload_n 2, 1) := by decide +kernel
theorem dJ9_floorMod_7cf53_11 : decode cJ9_floorMod_7cf53 11 = .ok (.ifCond .eq 7, 3) := by decide +kernel
theorem dJ9_floorMod_7cf53_14 : decode cJ9_floorMod_7cf53 14 = .ok (.iload_n 2, 1) := by decide +kernel
theorem dJ9_floorMod_7cf53_15 : decode cJ9_floorMod_7cf53 15 = .ok (.iload_n 1, 1) := by decide +kernel
theorem dJ9_floorMod_7cf53_16 : decode cJ9_floorMod_7cf53 16 = .ok (.iadd, 1) := by decide +kernel
theorem dJ9_floorMod_7cf53_17 : decode cJ9_floorMod_7cf53 17 = .ok (.ireturn, 1) := by decide +kernel
theorem dJ9_floorMod_7cf53_18 : decode cJ9_floorMod_7cf53 18 = .ok (.iload_n 2, 1) := by decide +kernel
theorem dJ9_floorMod_7cf53_19 : decode cJ9_floorMod_7cf53 19 = .ok (.ireturn, 1) := by decide +kernel
theorem dJ9_abs_0f7a4_0 : decode cJ9_abs_0f7a4 0 = .ok (.iload_n 0, 1) := by decide +kernel
theorem dJ9_abs_0f7a4_1 : decode cJ9_abs_0f7a4 1 = .ok (.ifCond .ge 8, 3) := by decide +kernel
theorem dJ9_abs_0f7a4_4 : decode cJ9_abs_0f7a4 4 = .ok (.iload_n 0, 1) := by decide +kernel
theorem dJ9_abs_0f7a4_5 : decode cJ9_abs_0f7a4 5 = .ok (.ineg, 1) := by decide +kernel
theorem dJ9_abs_0f7a4_6 : decode cJ9_abs_0f7a4 6 = .ok (.goto 4, 3) := by decide +kernel
theorem dJ9_abs_0f7a4_9 : decode cJ9_abs_0f7a4 9 = .ok (.iload_n 0, 1) := by decide +kernel
theorem dJ9_abs_0f7a4_10 : decode cJ9_abs_0f7a4 10 = .ok (.ireturn, 1) := by decide +kernel
theorem dJ9_max_7cf53_0 : decode cJ9_max_7cf53 0 = .ok (.iload_n 0, 1) := by decide +kernel
theorem dJ9_max_7cf53_1 : decode cJ9_max_7cf53 1 = .ok (.iload_n 1, 1) := by decide +kernel
theorem dJ9_max_7cf53_2 : decode cJ9_max_7cf53 2 = .ok (.if_icmp .lt 7, 3) := by decide +kernel
theorem dJ9_max_7cf53_5 : decode cJ9_max_7cf53 5 = .ok (.iload_n 0, 1) := by decide +kernel
theorem dJ9_max_7cf53_6 : decode cJ9_max_7cf53 6 = .ok (.goto 4, 3) := by decide +kernel
theorem dJ9_max_7cf53_9 : decode cJ9_max_7cf53 9 = .ok (.iload_n 1, 1) := by decide +kernel
theorem dJ9_max_7cf53_10 : decode cJ9_max_7cf53 10 = .ok (.ireturn, 1) := by decide +kernel
theorem dJ9_min_7cf53_0 : decode cJ9_min_7cf53 0 = .ok (.iload_n 0, 1) := by decide +kernel
theorem dJ9_min_7cf53_1 : decode cJ9_min_7cf53 1 = .ok (.iload_n 1, 1) := by decide +kernel
theorem dJ9_min_7cf53_2 : decode cJ9_min_7cf53 2 = .ok (.if_icmp .gt 7, 3) := by decide +kernel
theorem dJ9_min_7cf53_5 : decode cJ9_min_7cf53 5 = .ok (.iload_n 0, 1) := by decide +kernel
theorem dJ9_min_7cf53_6 : decode cJ9_min_7cf53 6 = .ok (.goto 4, 3) := by decide +kernel
theorem dJ9_min_7cf53_9 : decode cJ9_min_7cf53 9 = .ok (.iload_n 1, 1) := by decide +kernel
theorem dJ9_min_7cf53_10 : decode cJ9_min_7cf53 10 = .ok (.ireturn, 1) := by decide +kernel

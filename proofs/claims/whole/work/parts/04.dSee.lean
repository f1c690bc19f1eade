set_option maxRecDepth 20000 in
theorem ggX4_init_X2_init : GoodIn wsX4_init wsX2_init := goodIn_r _ [22, 23, 2, 3, 24, 25, 26, 27, 28, 29, 30, 53, 54, 55, 56, 57, 58, 59, 60, 61, 62] (by decide +kernel) (by decide +kernel)
set_option maxRecDepth 20000 in
theorem gX4_init_X2_init_n11 : GoodIn wsX4_init (wsX2_init) := ggX4_init_X2_init
set_option maxRecDepth 20000 in
theorem ggX4_init_X0_init : GoodIn wsX4_init wsX0_init := goodIn_r _ [32, 33, 2, 3, 34, 5, 6, 35, 21, 22, 23, 24, 25, 26, 27, 28, 29, 30, 53, 54, 55, 56, 57, 58, 59, 60, 61, 62, 70, 71] (by decide +kernel) (by decide +kernel)
set_option maxRecDepth 20000 in
theorem gX4_init_X0_init_n23 : GoodIn wsX4_init (wsX0_init) := ggX4_init_X0_init
set_option maxRecDepth 20000 in
theorem ggX4_init_X1_init : GoodIn wsX4_init wsX1_init := goodIn_r _ [37, 38, 2, 3, 24, 39, 40, 41, 72, 73, 74, 75] (by decide +kernel) (by decide +kernel)
set_option maxRecDepth 20000 in
theorem gX4_init_X1_init_n30 : GoodIn wsX4_init (wsX1_init) := ggX4_init_X1_init
set_option maxRecDepth 20000 in
theorem ggX4_init_X3_init : GoodIn wsX4_init wsX3_init := goodIn_r _ [44, 45, 2, 3, 24, 46, 47, 48, 49, 50, 51, 52, 76, 77, 78] (by decide +kernel) (by decide +kernel)
set_option maxRecDepth 20000 in
theorem gX4_init_X3_init : GoodIn wsX4_init (wsX3_init) := ggX4_init_X3_init
theorem dX4_init_0 : decode cX4_init 0 = .ok (.aload_n 0, 1) := by decide +kernel
theorem dX4_init_1 : decode cX4_init 1 = .ok (.invokespecial 3, 3) := by decide +kernel
theorem dX4_init_4 : decode cX4_init 4 = .ok (.aload_n 0, 1) := by decide +kernel
theorem dX4_init_5 : decode cX4_init 5 = .ok (.new 9, 3) := by decide +kernel
theorem dX4_init_8 : decode cX4_init 8 = .ok (.dup, 1) := by decide +kernel
theorem dX4_init_9 : decode cX4_init 9 = .ok (.invokespecial 11, 3) := by decide +kernel
theorem dX4_init_12 : decode cX4_init 12 = .ok (.putfield 12, 3) := by decide +kernel
theorem dX4_init_15 : decode cX4_init 15 = .ok (.aload_n 0, 1) := by decide +kernel
theorem dX4_init_16 : decode cX4_init 16 = .ok (.new 9, 3) := by decide +kernel
theorem dX4_init_19 : decode cX4_init 19 = .ok (.dup, 1) := by decide +kernel
theorem dX4_init_20 : decode cX4_init 20 = .ok (.invokespecial 11, 3) := by decide +kernel
theorem dX4_init_23 : decode cX4_init 23 = .ok (.putfield 18, 3) := by decide +kernel
theorem dX4_init_26 : decode cX4_init 26 = .ok (.aload_n 0, 1) := by decide +kernel
theorem dX4_init_27 : decode cX4_init 27 = .ok (.new 21, 3) := by decide +kernel
theorem dX4_init_30 : decode cX4_init 30 = .ok (.dup, 1) := by decide +kernel
theorem dX4_init_31 : decode cX4_init 31 = .ok (.invokespecial 23, 3) := by decide +kernel
theorem dX4_init_34 : decode cX4_init 34 = .ok (.putfield 24, 3) := by decide +kernel
theorem dX4_init_37 : decode cX4_init 37 = .ok (.aload_n 0, 1) := by decide +kernel
theorem dX4_init_38 : decode cX4_init 38 = .ok (.new 28, 3) := by decide +kernel
theorem dX4_init_41 : decode cX4_init 41 = .ok (.dup, 1) := by decide +kernel
theorem dX4_init_42 : decode cX4_init 42 = .ok (.invokespecial 30, 3) := by decide +kernel
theorem dX4_init_45 : decode cX4_init 45 = .ok (.putfield 31, 3) := by decide +kernel
theorem dX4_init_48 : decode cX4_init 48 = .ok (.aload_n 0, 1) := by decide +kernel
theorem dX4_init_49 : decode cX4_init 49 = .ok (.new 35, 3) := by decide +kernel
theorem dX4_init_52 : decode cX4_init 52 = .ok (.dup, 1) := by decide +kernel
theorem dX4_init_53 : decode cX4_init 53 = .ok (.invokespecial 37, 3) := by decide +kernel
theorem dX4_init_56 : decode cX4_init 56 = .ok (.putfield 38, 3) := by decide +kernel
theorem dX4_init_59 : decode cX4_init 59 = .ok (.return_, 1) := by decide +kernel
set_option maxRecDepth 20000 in
theorem ggX4_see_X4_isSheet : GoodIn wsX4_see wsX4_isSheet := goodIn_r _ [9] (by decide +kernel) (by decide +kernel)
set_option maxRecDepth 20000 in
theorem gX4_see_X4_isSheet : GoodIn wsX4_see (va_wsS RX4 46 yX4_isSheet wsX4_isSheet) := goodIn_app (goodIn_of _ (by decide +kernel)) ggX4_see_X4_isSheet
set_option maxRecDepth 20000 in
theorem ggX4_see_X4_isLane : GoodIn wsX4_see wsX4_isLane := goodIn_r _ [12] (by decide +kernel) (by decide +kernel)
set_option maxRecDepth 20000 in
theorem gX4_see_X4_isLane : GoodIn wsX4_see (va_wsS RX4 50 yX4_isLane wsX4_isLane) := goodIn_app (goodIn_of _ (by decide +kernel)) ggX4_see_X4_isLane
set_option maxRecDepth 20000 in
theorem ggX4_see_X3_faultOfCells : GoodIn wsX4_see wsX3_faultOfCells := goodIn_r _ [17, 18, 19, 20, 16, 21, 22, 23, 24, 25, 26, 27, 28, 29, 30, 31, 125, 126, 127] (by decide +kernel) (by decide +kernel)
set_option maxRecDepth 20000 in
theorem gX4_see_X3_faultOfCells : GoodIn wsX4_see (wsV RX4 53 RX3 yX3_faultOfCells wsX3_faultOfCells) := goodIn_app (goodIn_of _ (by decide +kernel)) ggX4_see_X3_faultOfCells
set_option maxRecDepth 20000 in
theorem ggX4_see_X4_fail : GoodIn wsX4_see wsX4_fail := goodIn_r _ [35, 1, 106, 107, 108, 109, 110, 111, 112] (by decide +kernel) (by decide +kernel)
set_option maxRecDepth 20000 in
theorem gX4_see_X4_fail : GoodIn wsX4_see (wsV RX4 57 RX4 yX4_fail wsX4_fail) := goodIn_app (goodIn_of _ (by decide +kernel)) ggX4_see_X4_fail
set_option maxRecDepth 20000 in
theorem ggX4_see_X4_firstFaultOfText : GoodIn wsX4_see wsX4_firstFaultOfText := goodIn_r _ [39, 4, 2, 40, 41, 42, 43, 44, 45, 46, 47, 48, 49, 16, 50, 51, 52, 53, 54, 55, 56, 57, 58, 59, 60, 61, 62, 63, 64, 65, 66, 67, 68, 69, 70, 71, 72, 73, 74, 75, 76, 77, 106, 107, 108, 109, 110, 111, 112, 113, 114, 115, 116, 117, 118, 119, 120, 121, 122, 123, 124, 125, 126, 127] (by decide +kernel) (by decide +kernel)
set_option maxRecDepth 20000 in
theorem gX4_see_X4_firstFaultOfText : GoodIn wsX4_see (wsV RX4 61 RX4 yX4_firstFaultOfText wsX4_firstFaultOfText) := goodIn_app (goodIn_of _ (by decide +kernel)) ggX4_see_X4_firstFaultOfText
set_option maxRecDepth 20000 in
theorem ggX4_see_X2_become : GoodIn wsX4_see wsX2_become := goodIn_r _ [82, 83, 84, 85, 86, 87, 88, 89, 90, 91, 92, 93, 94, 95, 96, 97, 98, 99, 115, 116, 117, 118, 119, 120, 121, 122, 123, 124] (by decide +kernel) (by decide +kernel)
set_option maxRecDepth 20000 in
theorem gX4_see_X2_become : GoodIn wsX4_see (wsV RX4 68 RX2 yX2_become wsX2_become) := goodIn_app (goodIn_of _ (by decide +kernel)) ggX4_see_X2_become
set_option maxRecDepth 20000 in
theorem ggX4_see_X1_keep : GoodIn wsX4_see wsX1_keep := goodIn_r _ [104, 105, 128, 129, 130, 131] (by decide +kernel) (by decide +kernel)
set_option maxRecDepth 20000 in
theorem gX4_see_X1_keep : GoodIn wsX4_see (wsV RX4 72 RX1 yX1_keep wsX1_keep) := goodIn_app (goodIn_of _ (by decide +kernel)) ggX4_see_X1_keep
theorem dX4_see_0 : decode cX4_see 0 = .ok (.aload_n 0, 1) := by decide +kernel
theorem dX4_see_1 : decode cX4_see 1 = .ok (.iconst 0, 1) := by decide +kernel
theorem dX4_see_2 : decode cX4_see 2 = .ok (.putfield 42, 3) := by decide +kernel
theorem dX4_see_5 : decode cX4_see 5 = .ok (.iload_n 1, 1) := by decide +kernel
theorem dX4_see_6 : decode cX4_see 6 = .ok (.invokestatic 46, 3) := by decide +kernel
theorem dX4_see_9 : decode cX4_see 9 = .ok (.ifCond .ne 5, 3) := by decide +kernel
theorem dX4_see_12 : decode cX4_see 12 = .ok (.iconst (-1), 1) := by decide +kernel
theorem dX4_see_13 : decode cX4_see 13 = .ok (.ireturn, 1) := by decide +kernel
theorem dX4_see_14 : decode cX4_see 14 = .ok (.iload_n 2, 1) := by decide +kernel
theorem dX4_see_15 : decode cX4_see 15 = .ok (.invokestatic 50, 3) := by decide +kernel
theorem dX4_see_18 : decode cX4_see 18 = .ok (.ifCond .ne 6, 3) := by decide +kernel
theorem dX4_see_21 : decode cX4_see 21 = .ok (.bipush (-2), 2) := by decide +kernel
theorem dX4_see_23 : decode cX4_see 23 = .ok (.ireturn, 1) := by decide +kernel
theorem dX4_see_24 : decode cX4_see 24 = .ok (.aload_n 0, 1) := by decide +kernel
theorem dX4_see_25 : decode cX4_see 25 = .ok (.getfield 38, 3) := by decide +kernel
theorem dX4_see_28 : decode cX4_see 28 = .ok (.iload_n 1, 1) := by decide +kernel
theorem dX4_see_29 : decode cX4_see 29 = .ok (.iload_n 2, 1) := by decide +kernel
theorem dX4_see_30 : decode cX4_see 30 = .ok (.iload_n 3, 1) := by decide +kernel
theorem dX4_see_31 : decode cX4_see 31 = .ok (.iload 4, 2) := by decide +kernel
theorem dX4_see_33 : decode cX4_see 33 = .ok (.invokevirtual 53, 3) := by decide +kernel
theorem dX4_see_36 : decode cX4_see 36 = .ok (.istore 5, 2) := by decide +kernel
theorem dX4_see_38 : decode cX4_see 38 = .ok (.iload 5, 2) := by decide +kernel
theorem dX4_see_40 : decode cX4_see 40 = .ok (.ifCond .eq 10, 3) := by decide +kernel
theorem dX4_see_43 : decode cX4_see 43 = .ok (.aload_n 0, 1) := by decide +kernel
theorem dX4_see_44 : decode cX4_see 44 = .ok (.iload 5, 2) := by decide +kernel
theorem dX4_see_46 : decode cX4_see 46 = .ok (.invokevirtual 57, 3) := by decide +kernel
theorem dX4_see_49 : decode cX4_see 49 = .ok (.ireturn, 1) := by decide +kernel
theorem dX4_see_50 : decode cX4_see 50 = .ok (.aload_n 0, 1) := by decide +kernel
theorem dX4_see_51 : decode cX4_see 51 = .ok (.iload_n 1, 1) := by decide +kernel
theorem dX4_see_52 : decode cX4_see 52 = .ok (.iload_n 3, 1) := by decide +kernel
theorem dX4_see_53 : decode cX4_see 53 = .ok (.iload 4, 2) := by decide +kernel
theorem dX4_see_55 : decode cX4_see 55 = .ok (.invokevirtual 61, 3) := by decide +kernel
theorem dX4_see_58 : decode cX4_see 58 = .ok (.istore 6, 2) := by decide +kernel
theorem dX4_see_60 : decode cX4_see 60 = .ok (.iload 6, 2) := by decide +kernel
theorem dX4_see_62 : decode cX4_see 62 = .ok (.bipush (-9), 2) := by decide +kernel
theorem dX4_see_64 : decode cX4_see 64 = .ok (.if_icmp .eq 9, 3) := by decide +kernel
theorem dX4_see_67 : decode cX4_see 67 = .ok (.bipush (-100), 2) := by decide +kernel
theorem dX4_see_69 : decode cX4_see 69 = .ok (.iload 6, 2) := by decide +kernel
theorem dX4_see_71 : decode cX4_see 71 = .ok (.isub, 1) := by decide +kernel
theorem dX4_see_72 : decode cX4_see 72 = .ok (.ireturn, 1) := by decide +kernel
theorem dX4_see_73 : decode cX4_see 73 = .ok (.aload_n 0, 1) := by decide +kernel
theorem dX4_see_74 : decode cX4_see 74 = .ok (.getfield 12, 3) := by decide +kernel
theorem dX4_see_77 : decode cX4_see 77 = .ok (.aload_n 0, 1) := by decide +kernel
theorem dX4_see_78 : decode cX4_see 78 = .ok (.getfield 24, 3) := by decide +kernel
theorem dX4_see_81 : decode cX4_see 81 = .ok (.getfield 65, 3) := by decide +kernel
theorem dX4_see_84 : decode cX4_see 84 = .ok (.invokevirtual 68, 3) := by decide +kernel
theorem dX4_see_87 : decode cX4_see 87 = .ok (.aload_n 0, 1) := by decide +kernel
theorem dX4_see_88 : decode cX4_see 88 = .ok (.getfield 31, 3) := by decide +kernel
theorem dX4_see_91 : decode cX4_see 91 = .ok (.iconst 0, 1) := by decide +kernel
theorem dX4_see_92 : decode cX4_see 92 = .ok (.invokevirtual 72, 3) := by decide +kernel
theorem dX4_see_95 : decode cX4_see 95 = .ok (.aload_n 0, 1) := by decide +kernel
theorem dX4_see_96 : decode cX4_see 96 = .ok (.getfield 12, 3) := by decide +kernel
theorem dX4_see_99 : decode cX4_see 99 = .ok (.getfield 76, 3) := by decide +kernel
theorem dX4_see_102 : decode cX4_see 102 = .ok (.ireturn, 1) := by decide +kernel
set_option maxRecDepth 20000 in
theorem ggX4_ofPupil_X4_isPupil : GoodIn wsX4_ofPupil wsX4_isPupil := goodIn_r _ [6, 1, 18, 19, 20, 21, 22, 23, 24, 25, 26, 27, 28, 29, 30, 31, 32, 33, 34] (by decide +kernel) (by decide +kernel)
set_option maxRecDepth 20000 in
theorem gX4_ofPupil_X4_isPupil : GoodIn wsX4_ofPupil (wsV RX4 79 RX4 yX4_isPupil wsX4_isPupil) := goodIn_app (goodIn_of _ (by decide +kernel)) ggX4_ofPupil_X4_isPupil
set_option maxRecDepth 20000 in
theorem ggX4_ofPupil_X2_hoursOfDay : GoodIn wsX4_ofPupil wsX2_hoursOfDay := goodIn_r _ [11, 12, 13, 14, 15, 16, 17, 25, 26, 27, 28, 29, 30, 31, 32, 33, 34] (by decide +kernel) (by decide +kernel)
set_option maxRecDepth 20000 in
theorem gX4_ofPupil_X2_hoursOfDay : GoodIn wsX4_ofPupil (wsV RX4 92 RX2 yX2_hoursOfDay wsX2_hoursOfDay) := goodIn_app (goodIn_of _ (by decide +kernel)) ggX4_ofPupil_X2_hoursOfDay
theorem dX4_ofPupil_0 : decode cX4_ofPupil 0 = .ok (.aload_n 0, 1) := by decide +kernel
theorem dX4_ofPupil_1 : decode cX4_ofPupil 1 = .ok (.iload_n 1, 1) := by decide +kernel
theorem dX4_ofPupil_2 : decode cX4_ofPupil 2 = .ok (.invokevirtual 79, 3) := by decide +kernel
theorem dX4_ofPupil_5 : decode cX4_ofPupil 5 = .ok (.ifCond .ne 5, 3) := by decide +kernel
theorem dX4_ofPupil_8 : decode cX4_ofPupil 8 = .ok (.iconst (-1), 1) := by decide +kernel
theorem dX4_ofPupil_9 : decode cX4_ofPupil 9 = .ok (.ireturn, 1) := by decide +kernel
theorem dX4_ofPupil_10 : decode cX4_ofPupil 10 = .ok (.iload_n 2, 1) := by decide +kernel
theorem dX4_ofPupil_11 : decode cX4_ofPupil 11 = .ok (.tableswitch 68 0 3 #[29, 39, 49, 59], 29) := by decide +kernel
theorem dX4_ofPupil_40 : decode cX4_ofPupil 40 = .ok (.aload_n 0, 1) := by decide +kernel
theorem dX4_ofPupil_41 : decode cX4_ofPupil 41 = .ok (.getfield 12, 3) := by decide +kernel
theorem dX4_ofPupil_44 : decode cX4_ofPupil 44 = .ok (.getfield 82, 3) := by decide +kernel
theorem dX4_ofPupil_47 : decode cX4_ofPupil 47 = .ok (.iload_n 1, 1) := by decide +kernel
theorem dX4_ofPupil_48 : decode cX4_ofPupil 48 = .ok (.iaload, 1) := by decide +kernel
theorem dX4_ofPupil_49 : decode cX4_ofPupil 49 = .ok (.ireturn, 1) := by decide +kernel
theorem dX4_ofPupil_50 : decode cX4_ofPupil 50 = .ok (.aload_n 0, 1) := by decide +kernel
theorem dX4_ofPupil_51 : decode cX4_ofPupil 51 = .ok (.getfield 12, 3) := by decide +kernel
theorem dX4_ofPupil_54 : decode cX4_ofPupil 54 = .ok (.getfield 86, 3) := by decide +kernel
theorem dX4_ofPupil_57 : decode cX4_ofPupil 57 = .ok (.iload_n 1, 1) := by decide +kernel
theorem dX4_ofPupil_58 : decode cX4_ofPupil 58 = .ok (.iaload, 1) := by decide +kernel
theorem dX4_ofPupil_59 : decode cX4_ofPupil 59 = .ok (.ireturn, 1) := by decide +kernel
theorem dX4_ofPupil_60 : decode cX4_ofPupil 60 = .ok (.aload_n 0, 1) := by decide +kernel
theorem dX4_ofPupil_61 : decode cX4_ofPupil 61 = .ok (.getfield 12, 3) := by decide +kernel
theorem dX4_ofPupil_64 : decode cX4_ofPupil 64 = .ok (.getfield 89, 3) := by decide +kernel
theorem dX4_ofPupil_67 : decode cX4_ofPupil 67 = .ok (.iload_n 1, 1) := by decide +kernel
theorem dX4_ofPupil_68 : decode cX4_ofPupil 68 = .ok (.iaload, 1) := by decide +kernel
theorem dX4_ofPupil_69 : decode cX4_ofPupil 69 = .ok (.ireturn, 1) := by decide +kernel
theorem dX4_ofPupil_70 : decode cX4_ofPupil 70 = .ok (.aload_n 0, 1) := by decide +kernel
theorem dX4_ofPupil_71 : decode cX4_ofPupil 71 = .ok (.getfield 12, 3) := by decide +kernel
theorem dX4_ofPupil_74 : decode cX4_ofPupil 74 = .ok (.iload_n 1, 1) := by decide +kernel
theorem dX4_ofPupil_75 : decode cX4_ofPupil 75 = .ok (.invokevirtual 92, 3) := by decide +kernel
theorem dX4_ofPupil_78 : decode cX4_ofPupil 78 = .ok (.ireturn, 1) := by decide +kernel
theorem dX4_ofPupil_79 : decode cX4_ofPupil 79 = .ok (.bipush (-2), 2) := by decide +kernel
theorem dX4_ofPupil_81 : decode cX4_ofPupil 81 = .ok (.ireturn, 1) := by decide +kernel
set_option maxRecDepth 20000 in
theorem ggX4_hard_X4_isDay : GoodIn wsX4_hard wsX4_isDay := goodIn_r _ [6, 1, 7, 8, 9, 10, 11, 12, 13, 14, 15, 16, 17, 18, 19, 20, 21, 22, 23] (by decide +kernel) (by decide +kernel)
set_option maxRecDepth 20000 in
theorem gX4_hard_X4_isDay : GoodIn wsX4_hard (wsV RX4 95 RX4 yX4_isDay wsX4_isDay) := goodIn_app (goodIn_of _ (by decide +kernel)) ggX4_hard_X4_isDay
theorem dX4_hard_0 : decode cX4_hard 0 = .ok (.aload_n 0, 1) := by decide +kernel
theorem dX4_hard_1 : decode cX4_hard 1 = .ok (.iload_n 1, 1) := by decide +kernel
theorem dX4_hard_2 : decode cX4_hard 2 = .ok (.invokevirtual 95, 3) := by decide +kernel
theorem dX4_hard_5 : decode cX4_hard 5 = .ok (.ifCond .eq 15, 3) := by decide +kernel
theorem dX4_hard_8 : decode cX4_hard 8 = .ok (.aload_n 0, 1) := by decide +kernel
theorem dX4_hard_9 : decode cX4_hard 9 = .ok (.getfield 12, 3) := by decide +kernel
theorem dX4_hard_12 : decode cX4_hard 12 = .ok (.getfield 98, 3) := by decide +kernel
theorem dX4_hard_15 : decode cX4_hard 15 = .ok (.iload_n 1, 1) := by decide +kernel
theorem dX4_hard_16 : decode cX4_hard 16 = .ok (.iaload, 1) := by decide +kernel
theorem dX4_hard_17 : decode cX4_hard 17 = .ok (.goto 4, 3) := by decide +kernel
theorem dX4_hard_20 : decode cX4_hard 20 = .ok (.iconst (-1), 1) := by decide +kernel
theorem dX4_hard_21 : decode cX4_hard 21 = .ok (.ireturn, 1) := by decide +kernel
set_option maxRecDepth 20000 in
theorem ggX4_ask_X4_isDay : GoodIn wsX4_ask wsX4_isDay := goodIn_r _ [6, 1, 10, 11, 12, 13, 14, 15, 16, 17, 18, 19, 20, 21, 22, 23, 24, 25, 26] (by decide +kernel) (by decide +kernel)
set_option maxRecDepth 20000 in
theorem gX4_ask_X4_isDay : GoodIn wsX4_ask (wsV RX4 95 RX4 yX4_isDay wsX4_isDay) := goodIn_app (goodIn_of _ (by decide +kernel)) ggX4_ask_X4_isDay
set_option maxRecDepth 20000 in
theorem ggX4_ask_X4_isLevel : GoodIn wsX4_ask wsX4_isLevel := goodIn_r _ [9] (by decide +kernel) (by decide +kernel)
set_option maxRecDepth 20000 in
theorem gX4_ask_X4_isLevel : GoodIn wsX4_ask (va_wsS RX4 101 yX4_isLevel wsX4_isLevel) := goodIn_app (goodIn_of _ (by decide +kernel)) ggX4_ask_X4_isLevel
theorem dX4_ask_0 : decode cX4_ask 0 = .ok (.aload_n 0, 1) := by decide +kernel
theorem dX4_ask_1 : decode cX4_ask 1 = .ok (.iload_n 1, 1) := by decide +kernel
theorem dX4_ask_2 : decode cX4_ask 2 = .ok (.invokevirtual 95, 3) := by decide +kernel
theorem dX4_ask_5 : decode cX4_ask 5 = .ok (.ifCond .ne 5, 3) := by decide +kernel
theorem dX4_ask_8 : decode cX4_ask 8 = .ok (.iconst (-1), 1) := by decide +kernel
theorem dX4_ask_9 : decode cX4_ask 9 = .ok (.ireturn, 1) := by decide +kernel
theorem dX4_ask_10 : decode cX4_ask 10 = .ok (.iload_n 2, 1) := by decide +kernel
theorem dX4_ask_11 : decode cX4_ask 11 = .ok (.invokestatic 101, 3) := by decide +kernel
theorem dX4_ask_14 : decode cX4_ask 14 = .ok (.ifCond .ne 6, 3) := by decide +kernel
theorem dX4_ask_17 : decode cX4_ask 17 = .ok (.bipush (-2), 2) := by decide +kernel
theorem dX4_ask_19 : decode cX4_ask 19 = .ok (.ireturn, 1) := by decide +kernel
theorem dX4_ask_20 : decode cX4_ask 20 = .ok (.aload_n 0, 1) := by decide +kernel
theorem dX4_ask_21 : decode cX4_ask 21 = .ok (.getfield 12, 3) := by decide +kernel
theorem dX4_ask_24 : decode cX4_ask 24 = .ok (.getfield 98, 3) := by decide +kernel
theorem dX4_ask_27 : decode cX4_ask 27 = .ok (.iload_n 1, 1) := by decide +kernel
theorem dX4_ask_28 : decode cX4_ask 28 = .ok (.iaload, 1) := by decide +kernel
theorem dX4_ask_29 : decode cX4_ask 29 = .ok (.istore_n 3, 1) := by decide +kernel
theorem dX4_ask_30 : decode cX4_ask 30 = .ok (.aload_n 0, 1) := by decide +kernel
theorem dX4_ask_31 : decode cX4_ask 31 = .ok (.getfield 12, 3) := by decide +kernel
theorem dX4_ask_34 : decode cX4_ask 34 = .ok (.getfield 98, 3) := by decide +kernel
theorem dX4_ask_37 : decode cX4_ask 37 = .ok (.iload_n 1, 1) := by decide +kernel
theorem dX4_ask_38 : decode cX4_ask 38 = .ok (.iload_n 2, 1) := by decide +kernel
theorem dX4_ask_39 : decode cX4_ask 39 = .ok (.iastore, 1) := by decide +kernel
theorem dX4_ask_40 : decode cX4_ask 40 = .ok (.iload_n 3, 1) := by decide +kernel
theorem dX4_ask_41 : decode cX4_ask 41 = .ok (.ireturn, 1) := by decide +kernel
set_option maxRecDepth 20000 in
theorem ggX4_teach_X4_isPupil : GoodIn wsX4_teach wsX4_isPupil := goodIn_r _ [6, 1, 10, 11, 12, 13, 14, 15, 16, 17, 18, 19, 20, 21, 22, 23, 24, 25, 26] (by decide +kernel) (by decide +kernel)
set_option maxRecDepth 20000 in
theorem gX4_teach_X4_isPupil : GoodIn wsX4_teach (wsV RX4 79 RX4 yX4_isPupil wsX4_isPupil) := goodIn_app (goodIn_of _ (by decide +kernel)) ggX4_teach_X4_isPupil
set_option maxRecDepth 20000 in
theorem ggX4_teach_X4_isLevel : GoodIn wsX4_teach wsX4_isLevel := goodIn_r _ [9] (by decide +kernel) (by decide +kernel)
set_option maxRecDepth 20000 in
theorem gX4_teach_X4_isLevel : GoodIn wsX4_teach (va_wsS RX4 101 yX4_isLevel wsX4_isLevel) := goodIn_app (goodIn_of _ (by decide +kernel)) ggX4_teach_X4_isLevel
theorem dX4_teach_0 : decode cX4_teach 0 = .ok (.aload_n 0, 1) := by decide +kernel
theorem dX4_teach_1 : decode cX4_teach 1 = .ok (.iload_n 1, 1) := by decide +kernel
theorem dX4_teach_2 : decode cX4_teach 2 = .ok (.invokevirtual 79, 3) := by decide +kernel
theorem dX4_teach_5 : decode cX4_teach 5 = .ok (.ifCond .ne 5, 3) := by decide +kernel
theorem dX4_teach_8 : decode cX4_teach 8 = .ok (.iconst (-1), 1) := by decide +kernel
theorem dX4_teach_9 : decode cX4_teach 9 = .ok (.ireturn, 1) := by decide +kernel
theorem dX4_teach_10 : decode cX4_teach 10 = .ok (.iload_n 2, 1) := by decide +kernel
theorem dX4_teach_11 : decode cX4_teach 11 = .ok (.invokestatic 101, 3) := by decide +kernel
theorem dX4_teach_14 : decode cX4_teach 14 = .ok (.ifCond .ne 6, 3) := by decide +kernel
theorem dX4_teach_17 : decode cX4_teach 17 = .ok (.bipush (-2), 2) := by decide +kernel
theorem dX4_teach_19 : decode cX4_teach 19 = .ok (.ireturn, 1) := by decide +kernel
theorem dX4_teach_20 : decode cX4_teach 20 = .ok (.aload_n 0, 1) := by decide +kernel
theorem dX4_teach_21 : decode cX4_teach 21 = .ok (.getfield 12, 3) := by decide +kernel
theorem dX4_teach_24 : decode cX4_teach 24 = .ok (.getfield 86, 3) := by decide +kernel
theorem dX4_teach_27 : decode cX4_teach 27 = .ok (.iload_n 1, 1) := by decide +kernel
theorem dX4_teach_28 : decode cX4_teach 28 = .ok (.iaload, 1) := by decide +kernel
theorem dX4_teach_29 : decode cX4_teach 29 = .ok (.istore_n 3, 1) := by decide +kernel
theorem dX4_teach_30 : decode cX4_teach 30 = .ok (.aload_n 0, 1) := by decide +kernel
theorem dX4_teach_31 : decode cX4_teach 31 = .ok (.getfield 12, 3) := by decide +kernel
theorem dX4_teach_34 : decode cX4_teach 34 = .ok (.getfield 86, 3) := by decide +kernel
theorem dX4_teach_37 : decode cX4_teach 37 = .ok (.iload_n 1, 1) := by decide +kernel
theorem dX4_teach_38 : decode cX4_teach 38 = .ok (.iload_n 2, 1) := by decide +kernel
theorem dX4_teach_39 : decode cX4_teach 39 = .ok (.iastore, 1) := by decide +kernel
theorem dX4_teach_40 : decode cX4_teach 40 = .ok (.iload_n 3, 1) := by decide +kernel
theorem dX4_teach_41 : decode cX4_teach 41 = .ok (.ireturn, 1) := by decide +kernel
set_option maxRecDepth 20000 in
theorem ggX4_doubt_X4_isLevel : GoodIn wsX4_doubt wsX4_isLevel := goodIn_r _ [5] (by decide +kernel) (by decide +kernel)
set_option maxRecDepth 20000 in
theorem gX4_doubt_X4_isLevel : GoodIn wsX4_doubt (va_wsS RX4 101 yX4_isLevel wsX4_isLevel) := goodIn_app (goodIn_of _ (by decide +kernel)) ggX4_doubt_X4_isLevel
set_option maxRecDepth 20000 in
theorem ggX4_doubt_X4_hasSee : GoodIn wsX4_doubt wsX4_hasSee := goodIn_r _ [9, 1, 10, 11, 12, 13, 14, 15, 16, 17, 18, 19, 20, 21, 22, 23, 24, 25, 26] (by decide +kernel) (by decide +kernel)
set_option maxRecDepth 20000 in
theorem gX4_doubt_X4_hasSee : GoodIn wsX4_doubt (wsV RX4 104 RX4 yX4_hasSee wsX4_hasSee) := goodIn_app (goodIn_of _ (by decide +kernel)) ggX4_doubt_X4_hasSee
theorem dX4_doubt_0 : decode cX4_doubt 0 = .ok (.iload_n 1, 1) := by decide +kernel
theorem dX4_doubt_1 : decode cX4_doubt 1 = .ok (.invokestatic 101, 3) := by decide +kernel
theorem dX4_doubt_4 : decode cX4_doubt 4 = .ok (.ifCond .ne 6, 3) := by decide +kernel
theorem dX4_doubt_7 : decode cX4_doubt 7 = .ok (.bipush (-2), 2) := by decide +kernel
theorem dX4_doubt_9 : decode cX4_doubt 9 = .ok (.ireturn, 1) := by decide +kernel
theorem dX4_doubt_10 : decode cX4_doubt 10 = .ok (.aload_n 0, 1) := by decide +kernel
theorem dX4_doubt_11 : decode cX4_doubt 11 = .ok (.invokevirtual 104, 3) := by decide +kernel
theorem dX4_doubt_14 : decode cX4_doubt 14 = .ok (.ifCond .ne 6, 3) := by decide +kernel
theorem dX4_doubt_17 : decode cX4_doubt 17 = .ok (.bipush (-3), 2) := by decide +kernel
theorem dX4_doubt_19 : decode cX4_doubt 19 = .ok (.ireturn, 1) := by decide +kernel
theorem dX4_doubt_20 : decode cX4_doubt 20 = .ok (.aload_n 0, 1) := by decide +kernel
theorem dX4_doubt_21 : decode cX4_doubt 21 = .ok (.getfield 12, 3) := by decide +kernel
theorem dX4_doubt_24 : decode cX4_doubt 24 = .ok (.getfield 108, 3) := by decide +kernel
theorem dX4_doubt_27 : decode cX4_doubt 27 = .ok (.istore_n 2, 1) := by decide +kernel
theorem dX4_doubt_28 : decode cX4_doubt 28 = .ok (.aload_n 0, 1) := by decide +kernel
theorem dX4_doubt_29 : decode cX4_doubt 29 = .ok (.getfield 12, 3) := by decide +kernel
theorem dX4_doubt_32 : decode cX4_doubt 32 = .ok (.iload_n 1, 1) := by decide +kernel
theorem dX4_doubt_33 : decode cX4_doubt 33 = .ok (.putfield 108, 3) := by decide +kernel
theorem dX4_doubt_36 : decode cX4_doubt 36 = .ok (.iload_n 2, 1) := by decide +kernel
theorem dX4_doubt_37 : decode cX4_doubt 37 = .ok (.ireturn, 1) := by decide +kernel
set_option maxRecDepth 20000 in
theorem ggX4_build_X4_hasSee : GoodIn wsX4_build wsX4_hasSee := goodIn_r _ [6, 1, 7, 8, 9, 10, 11, 12, 13, 14, 15, 16, 17, 18, 19, 20, 21, 22, 23] (by decide +kernel) (by decide +kernel)
set_option maxRecDepth 20000 in
theorem gX4_build_X4_hasSee : GoodIn wsX4_build (wsV RX4 104 RX4 yX4_hasSee wsX4_hasSee) := goodIn_app (goodIn_of _ (by decide +kernel)) ggX4_build_X4_hasSee
theorem dX4_build_0 : decode cX4_build 0 = .ok (.iload_n 1, 1) := by decide +kernel
theorem dX4_build_1 : decode cX4_build 1 = .ok (.iconst 1, 1) := by decide +kernel
theorem dX4_build_2 : decode cX4_build 2 = .ok (.if_icmp .lt 8, 3) := by decide +kernel
theorem dX4_build_5 : decode cX4_build 5 = .ok (.iload_n 1, 1) := by decide +kernel
theorem dX4_build_6 : decode cX4_build 6 = .ok (.iconst 4, 1) := by decide +kernel
theorem dX4_build_7 : decode cX4_build 7 = .ok (.if_icmp .le 6, 3) := by decide +kernel
theorem dX4_build_10 : decode cX4_build 10 = .ok (.bipush (-2), 2) := by decide +kernel
theorem dX4_build_12 : decode cX4_build 12 = .ok (.ireturn, 1) := by decide +kernel
theorem dX4_build_13 : decode cX4_build 13 = .ok (.aload_n 0, 1) := by decide +kernel
theorem dX4_build_14 : decode cX4_build 14 = .ok (.invokevirtual 104, 3) := by decide +kernel
theorem dX4_build_17 : decode cX4_build 17 = .ok (.ifCond .ne 6, 3) := by decide +kernel
theorem dX4_build_20 : decode cX4_build 20 = .ok (.bipush (-3), 2) := by decide +kernel
theorem dX4_build_22 : decode cX4_build 22 = .ok (.ireturn, 1) := by decide +kernel
theorem dX4_build_23 : decode cX4_build 23 = .ok (.aload_n 0, 1) := by decide +kernel
theorem dX4_build_24 : decode cX4_build 24 = .ok (.getfield 12, 3) := by decide +kernel
theorem dX4_build_27 : decode cX4_build 27 = .ok (.getfield 111, 3) := by decide +kernel
theorem dX4_build_30 : decode cX4_build 30 = .ok (.istore_n 2, 1) := by decide +kernel
theorem dX4_build_31 : decode cX4_build 31 = .ok (.aload_n 0, 1) := by decide +kernel
theorem dX4_build_32 : decode cX4_build 32 = .ok (.getfield 12, 3) := by decide +kernel
theorem dX4_build_35 : decode cX4_build 35 = .ok (.iload_n 1, 1) := by decide +kernel
theorem dX4_build_36 : decode cX4_build 36 = .ok (.putfield 111, 3) := by decide +kernel
theorem dX4_build_39 : decode cX4_build 39 = .ok (.iload_n 2, 1) := by decide +kernel
theorem dX4_build_40 : decode cX4_build 40 = .ok (.ireturn, 1) := by decide +kernel
set_option maxRecDepth 20000 in
theorem ggX4_would_X4_isPupil : GoodIn wsX4_would wsX4_isPupil := goodIn_r _ [6, 1, 19, 20, 21, 22, 23, 24, 25, 26, 27, 28, 29, 30, 31, 32, 33, 34, 35] (by decide +kernel) (by decide +kernel)
set_option maxRecDepth 20000 in
theorem gX4_would_X4_isPupil : GoodIn wsX4_would (wsV RX4 79 RX4 yX4_isPupil wsX4_isPupil) := goodIn_app (goodIn_of _ (by decide +kernel)) ggX4_would_X4_isPupil
set_option maxRecDepth 20000 in
theorem ggX4_would_X4_isDay : GoodIn wsX4_would wsX4_isDay := goodIn_r _ [10, 1, 19, 20, 21, 22, 23, 24, 25, 26, 27, 28, 29, 30, 31, 32, 33, 34, 35] (by decide +kernel) (by decide +kernel)
set_option maxRecDepth 20000 in
theorem gX4_would_X4_isDay : GoodIn wsX4_would (wsV RX4 95 RX4 yX4_isDay wsX4_isDay) := goodIn_app (goodIn_of _ (by decide +kernel)) ggX4_would_X4_isDay
set_option maxRecDepth 20000 in
theorem ggX4_would_X2_wouldStand : GoodIn wsX4_would wsX2_wouldStand := goodIn_r _ [15, 16, 17, 18, 26, 27, 28, 29, 30, 31, 32, 33, 34, 35] (by decide +kernel) (by decide +kernel)
set_option maxRecDepth 20000 in
theorem gX4_would_X2_wouldStand : GoodIn wsX4_would (wsV RX4 114 RX2 yX2_wouldStand wsX2_wouldStand) := goodIn_app (goodIn_of _ (by decide +kernel)) ggX4_would_X2_wouldStand
theorem dX4_would_0 : decode cX4_would 0 = .ok (.aload_n 0, 1) := by decide +kernel
theorem dX4_would_1 : decode cX4_would 1 = .ok (.iload_n 1, 1) := by decide +kernel
theorem dX4_would_2 : decode cX4_would 2 = .ok (.invokevirtual 79, 3) := by decide +kernel
theorem dX4_would_5 : decode cX4_would 5 = .ok (.ifCond .eq 11, 3) := by decide +kernel
theorem dX4_would_8 : decode cX4_would 8 = .ok (.aload_n 0, 1) := by decide +kernel
theorem dX4_would_9 : decode cX4_would 9 = .ok (.iload_n 2, 1) := by decide +kernel
theorem dX4_would_10 : decode cX4_would 10 = .ok (.invokevirtual 95, 3) := by decide +kernel
theorem dX4_would_13 : decode cX4_would 13 = .ok (.ifCond .ne 5, 3) := by decide +kernel
theorem dX4_would_16 : decode cX4_would 16 = .ok (.iconst (-1), 1) := by decide +kernel
theorem dX4_would_17 : decode cX4_would 17 = .ok (.ireturn, 1) := by decide +kernel
theorem dX4_would_18 : decode cX4_would 18 = .ok (.aload_n 0, 1) := by decide +kernel
theorem dX4_would_19 : decode cX4_would 19 = .ok (.getfield 12, 3) := by decide +kernel
theorem dX4_would_22 : decode cX4_would 22 = .ok (.iload_n 1, 1) := by decide +kernel
theorem dX4_would_23 : decode cX4_would 23 = .ok (.iload_n 2, 1) := by decide +kernel
theorem dX4_would_24 : decode cX4_would 24 = .ok (.iload_n 3, 1) := by decide +kernel
theorem dX4_would_25 : decode cX4_would 25 = .ok (.invokevirtual 114, 3) := by decide +kernel
theorem dX4_would_28 : decode cX4_would 28 = .ok (.ifCond .eq 7, 3) := by decide +kernel
theorem dX4_would_31 : decode cX4_would 31 = .ok (.iconst 1, 1) := by decide +kernel
theorem dX4_would_32 : decode cX4_would 32 = .ok (.goto 4, 3) := by decide +kernel
theorem dX4_would_35 : decode cX4_would 35 = .ok (.iconst 0, 1) := by decide +kernel
theorem dX4_would_36 : decode cX4_would 36 = .ok (.ireturn, 1) := by decide +kernel
set_option maxRecDepth 20000 in
theorem ggX4_stand_X4_isDay : GoodIn wsX4_stand wsX4_isDay := goodIn_r _ [6, 1, 40, 41, 42, 43, 44, 45, 46, 47, 48, 49, 50, 51, 52, 53, 54, 55, 56] (by decide +kernel) (by decide +kernel)
set_option maxRecDepth 20000 in
theorem gX4_stand_X4_isDay : GoodIn wsX4_stand (wsV RX4 95 RX4 yX4_isDay wsX4_isDay) := goodIn_app (goodIn_of _ (by decide +kernel)) ggX4_stand_X4_isDay
set_option maxRecDepth 20000 in
theorem ggX4_stand_X2_whoStands : GoodIn wsX4_stand wsX2_whoStands := goodIn_r _ [11, 12, 13, 14, 15, 16, 10, 17, 18, 19, 20, 21, 22, 23, 24, 25, 26, 27, 28, 29, 30, 31, 32, 33, 34, 35, 36, 37, 38, 39, 47, 48, 49, 50, 51, 52, 53, 54, 55, 56] (by decide +kernel) (by decide +kernel)
set_option maxRecDepth 20000 in
theorem gX4_stand_X2_whoStands : GoodIn wsX4_stand (wsV RX4 118 RX2 yX2_whoStands wsX2_whoStands) := goodIn_app (goodIn_of _ (by decide +kernel)) ggX4_stand_X2_whoStands
theorem dX4_stand_0 : decode cX4_stand 0 = .ok (.aload_n 0, 1) := by decide +kernel
theorem dX4_stand_1 : decode cX4_stand 1 = .ok (.iload_n 1, 1) := by decide +kernel
theorem dX4_stand_2 : decode cX4_stand 2 = .ok (.invokevirtual 95, 3) := by decide +kernel
theorem dX4_stand_5 : decode cX4_stand 5 = .ok (.ifCond .eq 14, 3) := by decide +kernel
theorem dX4_stand_8 : decode cX4_stand 8 = .ok (.aload_n 0, 1) := by decide +kernel
theorem dX4_stand_9 : decode cX4_stand 9 = .ok (.getfield 12, 3) := by decide +kernel
theorem dX4_stand_12 : decode cX4_stand 12 = .ok (.iload_n 1, 1) := by decide +kernel
theorem dX4_stand_13 : decode cX4_stand 13 = .ok (.invokevirtual 118, 3) := by decide +kernel
theorem dX4_stand_16 : decode cX4_stand 16 = .ok (.goto 4, 3) := by decide +kernel
theorem dX4_stand_19 : decode cX4_stand 19 = .ok (.iconst (-1), 1) := by decide +kernel
theorem dX4_stand_20 : decode cX4_stand 20 = .ok (.ireturn, 1) := by decide +kernel
set_option maxRecDepth 20000 in
theorem ggX4_bishop_X4_hasSee : GoodIn wsX4_bishop wsX4_hasSee := goodIn_r _ [6, 1, 64, 65, 66, 67, 68, 69, 70, 71, 72, 73, 74, 75, 76, 77, 78, 79, 80] (by decide +kernel) (by decide +kernel)
set_option maxRecDepth 20000 in
theorem gX4_bishop_X4_hasSee : GoodIn wsX4_bishop (wsV RX4 104 RX4 yX4_hasSee wsX4_hasSee) := goodIn_app (goodIn_of _ (by decide +kernel)) ggX4_bishop_X4_hasSee
set_option maxRecDepth 20000 in
theorem ggX4_bishop_X2_settle : GoodIn wsX4_bishop wsX2_settle := goodIn_r _ [11, 12, 13, 14, 15, 16, 10, 17, 18, 19, 20, 21, 22, 23, 24, 25, 26, 27, 28, 29, 30, 31, 32, 33, 34, 35, 36, 37, 38, 39, 40, 41, 42, 43, 44, 45, 71, 72, 73, 74, 75, 76, 77, 78, 79, 80] (by decide +kernel) (by decide +kernel)
set_option maxRecDepth 20000 in
theorem gX4_bishop_X2_settle : GoodIn wsX4_bishop (wsV RX4 121 RX2 yX2_settle wsX2_settle) := goodIn_app (goodIn_of _ (by decide +kernel)) ggX4_bishop_X2_settle
set_option maxRecDepth 20000 in
theorem ggX4_bishop_X2_longestStander : GoodIn wsX4_bishop wsX2_longestStander := goodIn_r _ [49, 19, 12, 50, 51, 52, 10, 53, 13, 25, 26, 27, 54, 55, 56, 57, 58, 59, 60, 61, 62, 63, 71, 72, 73, 74, 75, 76, 77, 78, 79, 80] (by decide +kernel) (by decide +kernel)
set_option maxRecDepth 20000 in
theorem gX4_bishop_X2_longestStander : GoodIn wsX4_bishop (wsV RX4 124 RX2 yX2_longestStander wsX2_longestStander) := goodIn_app (goodIn_of _ (by decide +kernel)) ggX4_bishop_X2_longestStander
theorem dX4_bishop_0 : decode cX4_bishop 0 = .ok (.aload_n 0, 1) := by decide +kernel
theorem dX4_bishop_1 : decode cX4_bishop 1 = .ok (.invokevirtual 104, 3) := by decide +kernel
theorem dX4_bishop_4 : decode cX4_bishop 4 = .ok (.ifCond .ne 6, 3) := by decide +kernel
theorem dX4_bishop_7 : decode cX4_bishop 7 = .ok (.bipush (-3), 2) := by decide +kernel
theorem dX4_bishop_9 : decode cX4_bishop 9 = .ok (.ireturn, 1) := by decide +kernel
theorem dX4_bishop_10 : decode cX4_bishop 10 = .ok (.aload_n 0, 1) := by decide +kernel
theorem dX4_bishop_11 : decode cX4_bishop 11 = .ok (.getfield 12, 3) := by decide +kernel
theorem dX4_bishop_14 : decode cX4_bishop 14 = .ok (.invokevirtual 121, 3) := by decide +kernel
theorem dX4_bishop_17 : decode cX4_bishop 17 = .ok (.aload_n 0, 1) := by decide +kernel
theorem dX4_bishop_18 : decode cX4_bishop 18 = .ok (.getfield 12, 3) := by decide +kernel
theorem dX4_bishop_21 : decode cX4_bishop 21 = .ok (.invokevirtual 124, 3) := by decide +kernel
theorem dX4_bishop_24 : decode cX4_bishop 24 = .ok (.ireturn, 1) := by decide +kernel
set_option maxRecDepth 20000 in
theorem ggX4_plan_X4_isSheet : GoodIn wsX4_plan wsX4_isSheet := goodIn_r _ [7] (by decide +kernel) (by decide +kernel)
set_option maxRecDepth 20000 in
theorem gX4_plan_X4_isSheet : GoodIn wsX4_plan (va_wsS RX4 46 yX4_isSheet wsX4_isSheet) := goodIn_app (goodIn_of _ (by decide +kernel)) ggX4_plan_X4_isSheet
set_option maxRecDepth 20000 in
theorem ggX4_plan_X4_isLane : GoodIn wsX4_plan wsX4_isLane := goodIn_r _ [10] (by decide +kernel) (by decide +kernel)
set_option maxRecDepth 20000 in
theorem gX4_plan_X4_isLane : GoodIn wsX4_plan (va_wsS RX4 50 yX4_isLane wsX4_isLane) := goodIn_app (goodIn_of _ (by decide +kernel)) ggX4_plan_X4_isLane
set_option maxRecDepth 20000 in
theorem ggX4_plan_X4_isOfPlan : GoodIn wsX4_plan wsX4_isOfPlan := goodIn_r _ [13] (by decide +kernel) (by decide +kernel)
set_option maxRecDepth 20000 in
theorem gX4_plan_X4_isOfPlan : GoodIn wsX4_plan (va_wsS RX4 128 yX4_isOfPlan wsX4_isOfPlan) := goodIn_app (goodIn_of _ (by decide +kernel)) ggX4_plan_X4_isOfPlan
set_option maxRecDepth 20000 in
theorem ggX4_plan_X3_faultOfCells : GoodIn wsX4_plan wsX3_faultOfCells := goodIn_r _ [18, 19, 20, 21, 17, 22, 23, 24, 25, 26, 27, 28, 29, 30, 31, 32, 171, 172, 173] (by decide +kernel) (by decide +kernel)
set_option maxRecDepth 20000 in
theorem gX4_plan_X3_faultOfCells : GoodIn wsX4_plan (wsV RX4 53 RX3 yX3_faultOfCells wsX3_faultOfCells) := goodIn_app (goodIn_of _ (by decide +kernel)) ggX4_plan_X3_faultOfCells
set_option maxRecDepth 20000 in
theorem ggX4_plan_X4_fail : GoodIn wsX4_plan wsX4_fail := goodIn_r _ [36, 1, 154, 155, 156, 157, 158, 159, 160] (by decide +kernel) (by decide +kernel)
set_option maxRecDepth 20000 in
theorem gX4_plan_X4_fail : GoodIn wsX4_plan (wsV RX4 57 RX4 yX4_fail wsX4_fail) := goodIn_app (goodIn_of _ (by decide +kernel)) ggX4_plan_X4_fail
set_option maxRecDepth 20000 in
theorem ggX4_plan_X4_hasSee : GoodIn wsX4_plan wsX4_hasSee := goodIn_r _ [40, 3, 154, 155, 156, 157, 158, 159, 160, 161, 162, 163, 164, 165, 166, 167, 168, 169, 170] (by decide +kernel) (by decide +kernel)
set_option maxRecDepth 20000 in
theorem gX4_plan_X4_hasSee : GoodIn wsX4_plan (wsV RX4 104 RX4 yX4_hasSee wsX4_hasSee) := goodIn_app (goodIn_of _ (by decide +kernel)) ggX4_plan_X4_hasSee
set_option maxRecDepth 20000 in
theorem ggX4_plan_X4_tryPlan : GoodIn wsX4_plan wsX4_tryPlan := goodIn_r _ [44, 45, 3, 2, 46, 47, 48, 49, 50, 51, 52, 53, 54, 55, 56, 57, 58, 59, 60, 61, 62, 63, 64, 65, 66, 67, 68, 69, 70, 17, 71, 72, 73, 74, 75, 76, 77, 78, 79, 80, 81, 82, 83, 84, 85, 86, 87, 88, 89, 90, 91, 92, 93, 94, 95, 96, 97, 98, 99, 100, 101, 102, 103, 104, 105, 106, 107, 154, 155, 156, 157, 158, 159, 160, 161, 162, 163, 164, 165, 166, 167, 168, 169, 170, 171, 172, 173] (by decide +kernel) (by decide +kernel)
set_option maxRecDepth 20000 in
theorem gX4_plan_X4_tryPlan : GoodIn wsX4_plan (wsV RX4 131 RX4 yX4_tryPlan wsX4_tryPlan) := goodIn_app (goodIn_of _ (by decide +kernel)) ggX4_plan_X4_tryPlan
set_option maxRecDepth 20000 in
theorem ggX4_plan_X4_ofPlanTried : GoodIn wsX4_plan wsX4_ofPlanTried := goodIn_r _ [111, 45, 112, 113, 114, 6, 115, 3, 116, 117, 118, 119, 120, 121, 122, 49, 123, 81, 90, 91, 92, 124, 125, 126, 127, 62, 60, 128, 129, 130, 131, 132, 133, 134, 135, 52, 51, 136, 137, 138, 139, 140, 141, 142, 143, 144, 63, 145, 74, 75, 76, 82, 83, 84, 85, 54, 86, 87, 88, 89, 93, 94, 95, 96, 61, 55, 53, 97, 98, 99, 100, 101, 102, 103, 104, 105, 106, 107, 146, 147, 148, 149, 150, 151, 152, 153, 154, 155, 156, 157, 158, 159, 160, 161, 162, 163, 164, 165, 166, 167, 168, 169, 170] (by decide +kernel) (by decide +kernel)
set_option maxRecDepth 20000 in
theorem gX4_plan_X4_ofPlanTried : GoodIn wsX4_plan (wsV RX4 135 RX4 yX4_ofPlanTried wsX4_ofPlanTried) := goodIn_app (goodIn_of _ (by decide +kernel)) ggX4_plan_X4_ofPlanTried
theorem dX4_plan_0 : decode cX4_plan 0 = .ok (.aload_n 0, 1) := by decide +kernel
theorem dX4_plan_1 : decode cX4_plan 1 = .ok (.iconst 0, 1) := by decide +kernel
theorem dX4_plan_2 : decode cX4_plan 2 = .ok (.putfield 42, 3) := by decide +kernel
theorem dX4_plan_5 : decode cX4_plan 5 = .ok (.iload_n 1, 1) := by decide +kernel
theorem dX4_plan_6 : decode cX4_plan 6 = .ok (.invokestatic 46, 3) := by decide +kernel
theorem dX4_plan_9 : decode cX4_plan 9 = .ok (.ifCond .ne 5, 3) := by decide +kernel
theorem dX4_plan_12 : decode cX4_plan 12 = .ok (.iconst (-1), 1) := by decide +kernel
theorem dX4_plan_13 : decode cX4_plan 13 = .ok (.ireturn, 1) := by decide +kernel
theorem dX4_plan_14 : decode cX4_plan 14 = .ok (.iload_n 2, 1) := by decide +kernel
theorem dX4_plan_15 : decode cX4_plan 15 = .ok (.invokestatic 50, 3) := by decide +kernel
theorem dX4_plan_18 : decode cX4_plan 18 = .ok (.ifCond .eq 11, 3) := by decide +kernel
theorem dX4_plan_21 : decode cX4_plan 21 = .ok (.iload 5, 2) := by decide +kernel
theorem dX4_plan_23 : decode cX4_plan 23 = .ok (.invokestatic 128, 3) := by decide +kernel
theorem dX4_plan_26 : decode cX4_plan 26 = .ok (.ifCond .ne 6, 3) := by decide +kernel
theorem dX4_plan_29 : decode cX4_plan 29 = .ok (.bipush (-2), 2) := by decide +kernel
theorem dX4_plan_31 : decode cX4_plan 31 = .ok (.ireturn, 1) := by decide +kernel
theorem dX4_plan_32 : decode cX4_plan 32 = .ok (.aload_n 0, 1) := by decide +kernel
theorem dX4_plan_33 : decode cX4_plan 33 = .ok (.getfield 38, 3) := by decide +kernel
theorem dX4_plan_36 : decode cX4_plan 36 = .ok (.iload_n 1, 1) := by decide +kernel
theorem dX4_plan_37 : decode cX4_plan 37 = .ok (.iload_n 2, 1) := by decide +kernel
theorem dX4_plan_38 : decode cX4_plan 38 = .ok (.iload_n 3, 1) := by decide +kernel
theorem dX4_plan_39 : decode cX4_plan 39 = .ok (.iload 4, 2) := by decide +kernel
theorem dX4_plan_41 : decode cX4_plan 41 = .ok (.invokevirtual 53, 3) := by decide +kernel
theorem dX4_plan_44 : decode cX4_plan 44 = .ok (.istore 6, 2) := by decide +kernel
theorem dX4_plan_46 : decode cX4_plan 46 = .ok (.iload 6, 2) := by decide +kernel
theorem dX4_plan_48 : decode cX4_plan 48 = .ok (.ifCond .eq 10, 3) := by decide +kernel
theorem dX4_plan_51 : decode cX4_plan 51 = .ok (.aload_n 0, 1) := by decide +kernel
theorem dX4_plan_52 : decode cX4_plan 52 = .ok (.iload 6, 2) := by decide +kernel
theorem dX4_plan_54 : decode cX4_plan 54 = .ok (.invokevirtual 57, 3) := by decide +kernel
theorem dX4_plan_57 : decode cX4_plan 57 = .ok (.ireturn, 1) := by decide +kernel
theorem dX4_plan_58 : decode cX4_plan 58 = .ok (.aload_n 0, 1) := by decide +kernel
theorem dX4_plan_59 : decode cX4_plan 59 = .ok (.invokevirtual 104, 3) := by decide +kernel
theorem dX4_plan_62 : decode cX4_plan 62 = .ok (.ifCond .ne 6, 3) := by decide +kernel
theorem dX4_plan_65 : decode cX4_plan 65 = .ok (.bipush (-3), 2) := by decide +kernel
theorem dX4_plan_67 : decode cX4_plan 67 = .ok (.ireturn, 1) := by decide +kernel
theorem dX4_plan_68 : decode cX4_plan 68 = .ok (.iload 4, 2) := by decide +kernel
theorem dX4_plan_70 : decode cX4_plan 70 = .ok (.aload_n 0, 1) := by decide +kernel
theorem dX4_plan_71 : decode cX4_plan 71 = .ok (.getfield 12, 3) := by decide +kernel
theorem dX4_plan_74 : decode cX4_plan 74 = .ok (.getfield 76, 3) := by decide +kernel
theorem dX4_plan_77 : decode cX4_plan 77 = .ok (.if_icmp .ne 12, 3) := by decide +kernel
theorem dX4_plan_80 : decode cX4_plan 80 = .ok (.aload_n 0, 1) := by decide +kernel
theorem dX4_plan_81 : decode cX4_plan 81 = .ok (.iload_n 1, 1) := by decide +kernel
theorem dX4_plan_82 : decode cX4_plan 82 = .ok (.iload_n 3, 1) := by decide +kernel
theorem dX4_plan_83 : decode cX4_plan 83 = .ok (.invokevirtual 131, 3) := by decide +kernel
theorem dX4_plan_86 : decode cX4_plan 86 = .ok (.ifCond .ne 6, 3) := by decide +kernel
theorem dX4_plan_89 : decode cX4_plan 89 = .ok (.bipush (-2), 2) := by decide +kernel
theorem dX4_plan_91 : decode cX4_plan 91 = .ok (.ireturn, 1) := by decide +kernel
theorem dX4_plan_92 : decode cX4_plan 92 = .ok (.aload_n 0, 1) := by decide +kernel
theorem dX4_plan_93 : decode cX4_plan 93 = .ok (.iload 5, 2) := by decide +kernel
theorem dX4_plan_95 : decode cX4_plan 95 = .ok (.invokevirtual 135, 3) := by decide +kernel
theorem dX4_plan_98 : decode cX4_plan 98 = .ok (.ireturn, 1) := by decide +kernel
set_option maxRecDepth 20000 in
theorem ggX4_best_X4_isPupil : GoodIn wsX4_best wsX4_isPupil := goodIn_r _ [7, 2, 86, 87, 88, 89, 90, 91, 92, 93, 94, 95, 96, 97, 98, 99, 100, 101, 102] (by decide +kernel) (by decide +kernel)
set_option maxRecDepth 20000 in
theorem gX4_best_X4_isPupil : GoodIn wsX4_best (wsV RX4 79 RX4 yX4_isPupil wsX4_isPupil) := goodIn_app (goodIn_of _ (by decide +kernel)) ggX4_best_X4_isPupil
set_option maxRecDepth 20000 in
theorem ggX4_best_X2_become : GoodIn wsX4_best wsX2_become := goodIn_r _ [12, 13, 14, 15, 16, 17, 18, 19, 20, 21, 22, 23, 24, 25, 26, 27, 28, 29, 93, 94, 95, 96, 97, 98, 99, 100, 101, 102] (by decide +kernel) (by decide +kernel)
set_option maxRecDepth 20000 in
theorem gX4_best_X2_become : GoodIn wsX4_best (wsV RX4 68 RX2 yX2_become wsX2_become) := goodIn_app (goodIn_of _ (by decide +kernel)) ggX4_best_X2_become
set_option maxRecDepth 20000 in
theorem ggX4_best_X2_allDays : GoodIn wsX4_best wsX2_allDays := goodIn_r _ [33, 13, 93, 94, 95, 96, 97, 98, 99, 100, 101, 102] (by decide +kernel) (by decide +kernel)
set_option maxRecDepth 20000 in
theorem gX4_best_X2_allDays : GoodIn wsX4_best (wsV RX4 138 RX2 yX2_allDays wsX2_allDays) := goodIn_app (goodIn_of _ (by decide +kernel)) ggX4_best_X2_allDays
set_option maxRecDepth 20000 in
theorem ggX4_best_J6_bitCount_0f7a4 : GoodIn wsX4_best wsJ6_bitCount_0f7a4 := goodIn_r _ [37, 38, 39, 40] (by decide +kernel) (by decide +kernel)
set_option maxRecDepth 20000 in
theorem gX4_best_J6_bitCount_0f7a4 : GoodIn wsX4_best (va_wsS RX4 141 yJ6_bitCount_0f7a4 wsJ6_bitCount_0f7a4) := goodIn_app (goodIn_of _ (by decide +kernel)) ggX4_best_J6_bitCount_0f7a4
set_option maxRecDepth 20000 in
theorem ggX4_best_X4_isBishopAsTried : GoodIn wsX4_best wsX4_isBishopAsTried := goodIn_r _ [44, 1, 45, 46, 47, 11, 48, 13, 49, 50, 51, 52, 53, 16, 14, 54, 55, 56, 57, 25, 58, 59, 60, 61, 62, 63, 64, 23, 17, 15, 65, 35, 36, 37, 38, 39, 40, 66, 67, 68, 69, 70, 71, 72, 73, 74, 75, 76, 77, 78, 79, 80, 81, 24, 22, 82, 83, 84, 85, 86, 87, 88, 89, 90, 91, 92, 93, 94, 95, 96, 97, 98, 99, 100, 101, 102] (by decide +kernel) (by decide +kernel)
set_option maxRecDepth 20000 in
theorem gX4_best_X4_isBishopAsTried : GoodIn wsX4_best (wsV RX4 149 RX4 yX4_isBishopAsTried wsX4_isBishopAsTried) := goodIn_app (goodIn_of _ (by decide +kernel)) ggX4_best_X4_isBishopAsTried
theorem dX4_best_0 : decode cX4_best 0 = .ok (.aload_n 0, 1) := by decide +kernel
theorem dX4_best_1 : decode cX4_best 1 = .ok (.iload_n 1, 1) := by decide +kernel
theorem dX4_best_2 : decode cX4_best 2 = .ok (.invokevirtual 79, 3) := by decide +kernel
theorem dX4_best_5 : decode cX4_best 5 = .ok (.ifCond .ne 5, 3) := by decide +kernel
theorem dX4_best_8 : decode cX4_best 8 = .ok (.iconst (-1), 1) := by decide +kernel
theorem dX4_best_9 : decode cX4_best 9 = .ok (.ireturn, 1) := by decide +kernel
theorem dX4_best_10 : decode cX4_best 10 = .ok (.aload_n 0, 1) := by decide +kernel
theorem dX4_best_11 : decode cX4_best 11 = .ok (.getfield 18, 3) := by decide +kernel
theorem dX4_best_14 : decode cX4_best 14 = .ok (.aload_n 0, 1) := by decide +kernel
theorem dX4_best_15 : decode cX4_best 15 = .ok (.getfield 12, 3) := by decide +kernel
theorem dX4_best_18 : decode cX4_best 18 = .ok (.invokevirtual 68, 3) := by decide +kernel
theorem dX4_best_21 : decode cX4_best 21 = .ok (.bipush (-9), 2) := by decide +kernel
theorem dX4_best_23 : decode cX4_best 23 = .ok (.istore_n 2, 1) := by decide +kernel
theorem dX4_best_24 : decode cX4_best 24 = .ok (.bipush 6, 2) := by decide +kernel
theorem dX4_best_26 : decode cX4_best 26 = .ok (.istore_n 3, 1) := by decide +kernel
theorem dX4_best_27 : decode cX4_best 27 = .ok (.iconst 0, 1) := by decide +kernel
theorem dX4_best_28 : decode cX4_best 28 = .ok (.istore 4, 2) := by decide +kernel
theorem dX4_best_30 : decode cX4_best 30 = .ok (.iload 4, 2) := by decide +kernel
theorem dX4_best_32 : decode cX4_best 32 = .ok (.aload_n 0, 1) := by decide +kernel
theorem dX4_best_33 : decode cX4_best 33 = .ok (.getfield 12, 3) := by decide +kernel
theorem dX4_best_36 : decode cX4_best 36 = .ok (.invokevirtual 138, 3) := by decide +kernel
theorem dX4_best_39 : decode cX4_best 39 = .ok (.if_icmp .gt 47, 3) := by decide +kernel
theorem dX4_best_42 : decode cX4_best 42 = .ok (.iload 4, 2) := by decide +kernel
theorem dX4_best_44 : decode cX4_best 44 = .ok (.invokestatic 141, 3) := by decide +kernel
theorem dX4_best_47 : decode cX4_best 47 = .ok (.istore 5, 2) := by decide +kernel
theorem dX4_best_49 : decode cX4_best 49 = .ok (.iload 5, 2) := by decide +kernel
theorem dX4_best_51 : decode cX4_best 51 = .ok (.iload_n 3, 1) := by decide +kernel
theorem dX4_best_52 : decode cX4_best 52 = .ok (.if_icmp .ge 28, 3) := by decide +kernel
theorem dX4_best_55 : decode cX4_best 55 = .ok (.aload_n 0, 1) := by decide +kernel
theorem dX4_best_56 : decode cX4_best 56 = .ok (.getfield 18, 3) := by decide +kernel
theorem dX4_best_59 : decode cX4_best 59 = .ok (.getfield 146, 3) := by decide +kernel
theorem dX4_best_62 : decode cX4_best 62 = .ok (.iload_n 1, 1) := by decide +kernel
theorem dX4_best_63 : decode cX4_best 63 = .ok (.iload 4, 2) := by decide +kernel
theorem dX4_best_65 : decode cX4_best 65 = .ok (.iastore, 1) := by decide +kernel
theorem dX4_best_66 : decode cX4_best 66 = .ok (.aload_n 0, 1) := by decide +kernel
theorem dX4_best_67 : decode cX4_best 67 = .ok (.iload_n 1, 1) := by decide +kernel
theorem dX4_best_68 : decode cX4_best 68 = .ok (.invokevirtual 149, 3) := by decide +kernel
theorem dX4_best_71 : decode cX4_best 71 = .ok (.ifCond .eq 9, 3) := by decide +kernel
theorem dX4_best_74 : decode cX4_best 74 = .ok (.iload 4, 2) := by decide +kernel
theorem dX4_best_76 : decode cX4_best 76 = .ok (.istore_n 2, 1) := by decide +kernel
theorem dX4_best_77 : decode cX4_best 77 = .ok (.iload 5, 2) := by decide +kernel
theorem dX4_best_79 : decode cX4_best 79 = .ok (.istore_n 3, 1) := by decide +kernel
theorem dX4_best_80 : decode cX4_best 80 = .ok (.iinc 4 1, 3) := by decide +kernel
theorem dX4_best_83 : decode cX4_best 83 = .ok (.goto (-53), 3) := by decide +kernel
theorem dX4_best_86 : decode cX4_best 86 = .ok (.iload_n 2, 1) := by decide +kernel
theorem dX4_best_87 : decode cX4_best 87 = .ok (.ireturn, 1) := by decide +kernel
set_option maxRecDepth 20000 in
theorem ggX4_choose_X4_isPupil : GoodIn wsX4_choose wsX4_isPupil := goodIn_r _ [7, 2, 85, 86, 87, 88, 89, 90, 91, 92, 93, 94, 95, 96, 97, 98, 99, 100, 101] (by decide +kernel) (by decide +kernel)
set_option maxRecDepth 20000 in
theorem gX4_choose_X4_isPupil : GoodIn wsX4_choose (wsV RX4 79 RX4 yX4_isPupil wsX4_isPupil) := goodIn_app (goodIn_of _ (by decide +kernel)) ggX4_choose_X4_isPupil
set_option maxRecDepth 20000 in
theorem ggX4_choose_X4_isDay : GoodIn wsX4_choose wsX4_isDay := goodIn_r _ [11, 2, 85, 86, 87, 88, 89, 90, 91, 92, 93, 94, 95, 96, 97, 98, 99, 100, 101] (by decide +kernel) (by decide +kernel)
set_option maxRecDepth 20000 in
theorem gX4_choose_X4_isDay : GoodIn wsX4_choose (wsV RX4 95 RX4 yX4_isDay wsX4_isDay) := goodIn_app (goodIn_of _ (by decide +kernel)) ggX4_choose_X4_isDay
set_option maxRecDepth 20000 in
theorem ggX4_choose_X2_become : GoodIn wsX4_choose wsX2_become := goodIn_r _ [16, 17, 18, 19, 20, 21, 22, 23, 24, 25, 26, 27, 28, 29, 30, 31, 32, 33, 92, 93, 94, 95, 96, 97, 98, 99, 100, 101] (by decide +kernel) (by decide +kernel)
set_option maxRecDepth 20000 in
theorem gX4_choose_X2_become : GoodIn wsX4_choose (wsV RX4 68 RX2 yX2_become wsX2_become) := goodIn_app (goodIn_of _ (by decide +kernel)) ggX4_choose_X2_become
set_option maxRecDepth 20000 in
theorem ggX4_choose_X4_isBishopAsTried : GoodIn wsX4_choose wsX4_isBishopAsTried := goodIn_r _ [37, 1, 38, 39, 40, 15, 41, 17, 42, 43, 44, 45, 46, 20, 18, 47, 48, 49, 50, 29, 51, 52, 53, 54, 55, 56, 57, 27, 21, 19, 58, 59, 60, 61, 62, 63, 64, 65, 66, 67, 68, 69, 70, 71, 72, 73, 74, 75, 76, 77, 78, 79, 80, 28, 26, 81, 82, 83, 84, 85, 86, 87, 88, 89, 90, 91, 92, 93, 94, 95, 96, 97, 98, 99, 100, 101] (by decide +kernel) (by decide +kernel)
set_option maxRecDepth 20000 in
theorem gX4_choose_X4_isBishopAsTried : GoodIn wsX4_choose (wsV RX4 149 RX4 yX4_isBishopAsTried wsX4_isBishopAsTried) := goodIn_app (goodIn_of _ (by decide +kernel)) ggX4_choose_X4_isBishopAsTried
theorem dX4_choose_0 : decode cX4_choose 0 = .ok (.aload_n 0, 1) := by decide +kernel
theorem dX4_choose_1 : decode cX4_choose 1 = .ok (.iload_n 1, 1) := by decide +kernel
theorem dX4_choose_2 : decode cX4_choose 2 = .ok (.invokevirtual 79, 3) := by decide +kernel
theorem dX4_choose_5 : decode cX4_choose 5 = .ok (.ifCond .eq 11, 3) := by decide +kernel
theorem dX4_choose_8 : decode cX4_choose 8 = .ok (.aload_n 0, 1) := by decide +kernel
theorem dX4_choose_9 : decode cX4_choose 9 = .ok (.iload_n 2, 1) := by decide +kernel
theorem dX4_choose_10 : decode cX4_choose 10 = .ok (.invokevirtual 95, 3) := by decide +kernel
theorem dX4_choose_13 : decode cX4_choose 13 = .ok (.ifCond .ne 5, 3) := by decide +kernel
theorem dX4_choose_16 : decode cX4_choose 16 = .ok (.iconst (-1), 1) := by decide +kernel
theorem dX4_choose_17 : decode cX4_choose 17 = .ok (.ireturn, 1) := by decide +kernel
theorem dX4_choose_18 : decode cX4_choose 18 = .ok (.aload_n 0, 1) := by decide +kernel
theorem dX4_choose_19 : decode cX4_choose 19 = .ok (.getfield 18, 3) := by decide +kernel
theorem dX4_choose_22 : decode cX4_choose 22 = .ok (.aload_n 0, 1) := by decide +kernel
theorem dX4_choose_23 : decode cX4_choose 23 = .ok (.getfield 12, 3) := by decide +kernel
theorem dX4_choose_26 : decode cX4_choose 26 = .ok (.invokevirtual 68, 3) := by decide +kernel
theorem dX4_choose_29 : decode cX4_choose 29 = .ok (.iconst 0, 1) := by decide +kernel
theorem dX4_choose_30 : decode cX4_choose 30 = .ok (.istore_n 3, 1) := by decide +kernel
theorem dX4_choose_31 : decode cX4_choose 31 = .ok (.iload_n 3, 1) := by decide +kernel
theorem dX4_choose_32 : decode cX4_choose 32 = .ok (.bipush 10, 2) := by decide +kernel
theorem dX4_choose_34 : decode cX4_choose 34 = .ok (.if_icmp .ge 29, 3) := by decide +kernel
theorem dX4_choose_37 : decode cX4_choose 37 = .ok (.aload_n 0, 1) := by decide +kernel
theorem dX4_choose_38 : decode cX4_choose 38 = .ok (.getfield 18, 3) := by decide +kernel
theorem dX4_choose_41 : decode cX4_choose 41 = .ok (.getfield 98, 3) := by decide +kernel
theorem dX4_choose_44 : decode cX4_choose 44 = .ok (.iload_n 2, 1) := by decide +kernel
theorem dX4_choose_45 : decode cX4_choose 45 = .ok (.iload_n 3, 1) := by decide +kernel
theorem dX4_choose_46 : decode cX4_choose 46 = .ok (.iastore, 1) := by decide +kernel
theorem dX4_choose_47 : decode cX4_choose 47 = .ok (.aload_n 0, 1) := by decide +kernel
theorem dX4_choose_48 : decode cX4_choose 48 = .ok (.iload_n 1, 1) := by decide +kernel
theorem dX4_choose_49 : decode cX4_choose 49 = .ok (.invokevirtual 149, 3) := by decide +kernel
theorem dX4_choose_52 : decode cX4_choose 52 = .ok (.ifCond .eq 5, 3) := by decide +kernel
theorem dX4_choose_55 : decode cX4_choose 55 = .ok (.iload_n 3, 1) := by decide +kernel
theorem dX4_choose_56 : decode cX4_choose 56 = .ok (.ireturn, 1) := by decide +kernel
theorem dX4_choose_57 : decode cX4_choose 57 = .ok (.iinc 3 1, 3) := by decide +kernel
theorem dX4_choose_60 : decode cX4_choose 60 = .ok (.goto (-29), 3) := by decide +kernel
theorem dX4_choose_63 : decode cX4_choose 63 = .ok (.bipush (-9), 2) := by decide +kernel
theorem dX4_choose_65 : decode cX4_choose 65 = .ok (.ireturn, 1) := by decide +kernel
set_option maxRecDepth 20000 in
theorem ggX4_reading_X4_isPupil : GoodIn wsX4_reading wsX4_isPupil := goodIn_r _ [7, 1, 17, 18, 19, 20, 21, 22, 23, 24, 25, 26, 27, 28, 29, 30, 31, 32, 33] (by decide +kernel) (by decide +kernel)
set_option maxRecDepth 20000 in
theorem gX4_reading_X4_isPupil : GoodIn wsX4_reading (wsV RX4 79 RX4 yX4_isPupil wsX4_isPupil) := goodIn_app (goodIn_of _ (by decide +kernel)) ggX4_reading_X4_isPupil
set_option maxRecDepth 20000 in
theorem ggX4_reading_X1_add : GoodIn wsX4_reading wsX1_add := goodIn_r _ [12, 13, 14, 15, 16, 34, 35, 36, 37] (by decide +kernel) (by decide +kernel)
set_option maxRecDepth 20000 in
theorem gX4_reading_X1_add : GoodIn wsX4_reading (wsV RX4 158 RX1 yX1_add wsX1_add) := goodIn_app (goodIn_of _ (by decide +kernel)) ggX4_reading_X1_add
theorem dX4_reading_0 : decode cX4_reading 0 = .ok (.aload_n 0, 1) := by decide +kernel
theorem dX4_reading_1 : decode cX4_reading 1 = .ok (.iload_n 1, 1) := by decide +kernel
theorem dX4_reading_2 : decode cX4_reading 2 = .ok (.invokevirtual 79, 3) := by decide +kernel
theorem dX4_reading_5 : decode cX4_reading 5 = .ok (.ifCond .ne 5, 3) := by decide +kernel
theorem dX4_reading_8 : decode cX4_reading 8 = .ok (.iconst (-1), 1) := by decide +kernel
theorem dX4_reading_9 : decode cX4_reading 9 = .ok (.ireturn, 1) := by decide +kernel
theorem dX4_reading_10 : decode cX4_reading 10 = .ok (.iload_n 2, 1) := by decide +kernel
theorem dX4_reading_11 : decode cX4_reading 11 = .ok (.ifCond .lt 24, 3) := by decide +kernel
theorem dX4_reading_14 : decode cX4_reading 14 = .ok (.iload_n 2, 1) := by decide +kernel
theorem dX4_reading_15 : decode cX4_reading 15 = .ok (.aload_n 0, 1) := by decide +kernel
theorem dX4_reading_16 : decode cX4_reading 16 = .ok (.getfield 12, 3) := by decide +kernel
theorem dX4_reading_19 : decode cX4_reading 19 = .ok (.getfield 152, 3) := by decide +kernel
theorem dX4_reading_22 : decode cX4_reading 22 = .ok (.if_icmp .gt 13, 3) := by decide +kernel
theorem dX4_reading_25 : decode cX4_reading 25 = .ok (.iload_n 3, 1) := by decide +kernel
theorem dX4_reading_26 : decode cX4_reading 26 = .ok (.ifCond .lt 9, 3) := by decide +kernel
theorem dX4_reading_29 : decode cX4_reading 29 = .ok (.iload_n 3, 1) := by decide +kernel
theorem dX4_reading_30 : decode cX4_reading 30 = .ok (.bipush 99, 2) := by decide +kernel
theorem dX4_reading_32 : decode cX4_reading 32 = .ok (.if_icmp .le 6, 3) := by decide +kernel
theorem dX4_reading_35 : decode cX4_reading 35 = .ok (.bipush (-2), 2) := by decide +kernel
theorem dX4_reading_37 : decode cX4_reading 37 = .ok (.ireturn, 1) := by decide +kernel
theorem dX4_reading_38 : decode cX4_reading 38 = .ok (.aload_n 0, 1) := by decide +kernel
theorem dX4_reading_39 : decode cX4_reading 39 = .ok (.getfield 31, 3) := by decide +kernel
theorem dX4_reading_42 : decode cX4_reading 42 = .ok (.getfield 155, 3) := by decide +kernel
theorem dX4_reading_45 : decode cX4_reading 45 = .ok (.bipush 8, 2) := by decide +kernel
theorem dX4_reading_47 : decode cX4_reading 47 = .ok (.if_icmp .lt 6, 3) := by decide +kernel
theorem dX4_reading_50 : decode cX4_reading 50 = .ok (.bipush (-4), 2) := by decide +kernel
theorem dX4_reading_52 : decode cX4_reading 52 = .ok (.ireturn, 1) := by decide +kernel
theorem dX4_reading_53 : decode cX4_reading 53 = .ok (.aload_n 0, 1) := by decide +kernel
theorem dX4_reading_54 : decode cX4_reading 54 = .ok (.getfield 31, 3) := by decide +kernel
theorem dX4_reading_57 : decode cX4_reading 57 = .ok (.iload_n 1, 1) := by decide +kernel
theorem dX4_reading_58 : decode cX4_reading 58 = .ok (.iload_n 2, 1) := by decide +kernel
theorem dX4_reading_59 : decode cX4_reading 59 = .ok (.iload_n 3, 1) := by decide +kernel
theorem dX4_reading_60 : decode cX4_reading 60 = .ok (.invokevirtual 158, 3) := by decide +kernel
theorem dX4_reading_63 : decode cX4_reading 63 = .ok (.ireturn, 1) := by decide +kernel
set_option maxRecDepth 20000 in
theorem ggX4_back_X1_keep : GoodIn wsX4_back wsX1_keep := goodIn_r _ [6, 7, 15, 16, 17, 18] (by decide +kernel) (by decide +kernel)
set_option maxRecDepth 20000 in
theorem gX4_back_X1_keep : GoodIn wsX4_back (wsV RX4 72 RX1 yX1_keep wsX1_keep) := goodIn_app (goodIn_of _ (by decide +kernel)) ggX4_back_X1_keep
theorem dX4_back_0 : decode cX4_back 0 = .ok (.iload_n 1, 1) := by decide +kernel
theorem dX4_back_1 : decode cX4_back 1 = .ok (.ifCond .lt 14, 3) := by decide +kernel
theorem dX4_back_4 : decode cX4_back 4 = .ok (.iload_n 1, 1) := by decide +kernel
theorem dX4_back_5 : decode cX4_back 5 = .ok (.aload_n 0, 1) := by decide +kernel
theorem dX4_back_6 : decode cX4_back 6 = .ok (.getfield 31, 3) := by decide +kernel
theorem dX4_back_9 : decode cX4_back 9 = .ok (.getfield 155, 3) := by decide +kernel
theorem dX4_back_12 : decode cX4_back 12 = .ok (.if_icmp .le 6, 3) := by decide +kernel
theorem dX4_back_15 : decode cX4_back 15 = .ok (.bipush (-2), 2) := by decide +kernel
theorem dX4_back_17 : decode cX4_back 17 = .ok (.ireturn, 1) := by decide +kernel
theorem dX4_back_18 : decode cX4_back 18 = .ok (.aload_n 0, 1) := by decide +kernel
theorem dX4_back_19 : decode cX4_back 19 = .ok (.getfield 31, 3) := by decide +kernel
theorem dX4_back_22 : decode cX4_back 22 = .ok (.aload_n 0, 1) := by decide +kernel
theorem dX4_back_23 : decode cX4_back 23 = .ok (.getfield 31, 3) := by decide +kernel
theorem dX4_back_26 : decode cX4_back 26 = .ok (.getfield 155, 3) := by decide +kernel
theorem dX4_back_29 : decode cX4_back 29 = .ok (.iload_n 1, 1) := by decide +kernel
theorem dX4_back_30 : decode cX4_back 30 = .ok (.isub, 1) := by decide +kernel
theorem dX4_back_31 : decode cX4_back 31 = .ok (.invokevirtual 72, 3) := by decide +kernel
theorem dX4_back_34 : decode cX4_back 34 = .ok (.aload_n 0, 1) := by decide +kernel
theorem dX4_back_35 : decode cX4_back 35 = .ok (.getfield 31, 3) := by decide +kernel
theorem dX4_back_38 : decode cX4_back 38 = .ok (.getfield 155, 3) := by decide +kernel
theorem dX4_back_41 : decode cX4_back 41 = .ok (.ireturn, 1) := by decide +kernel
set_option maxRecDepth 20000 in
theorem ggX4_wits_X4_isPupil : GoodIn wsX4_wits wsX4_isPupil := goodIn_r _ [7, 2, 87, 88, 89, 90, 91, 92, 93, 94, 95, 96, 97, 98, 99, 100, 101, 102, 103] (by decide +kernel) (by decide +kernel)
set_option maxRecDepth 20000 in
theorem gX4_wits_X4_isPupil : GoodIn wsX4_wits (wsV RX4 79 RX4 yX4_isPupil wsX4_isPupil) := goodIn_app (goodIn_of _ (by decide +kernel)) ggX4_wits_X4_isPupil
set_option maxRecDepth 20000 in
theorem ggX4_wits_X2_become : GoodIn wsX4_wits wsX2_become := goodIn_r _ [12, 13, 14, 15, 16, 17, 18, 19, 20, 21, 22, 23, 24, 25, 26, 27, 28, 29, 94, 95, 96, 97, 98, 99, 100, 101, 102, 103] (by decide +kernel) (by decide +kernel)
set_option maxRecDepth 20000 in
theorem gX4_wits_X2_become : GoodIn wsX4_wits (wsV RX4 68 RX2 yX2_become wsX2_become) := goodIn_app (goodIn_of _ (by decide +kernel)) ggX4_wits_X2_become
set_option maxRecDepth 20000 in
theorem ggX4_wits_X4_bitIfRead : GoodIn wsX4_wits wsX4_bitIfRead := goodIn_r _ [33, 1, 34, 35, 36, 37, 11, 38, 13, 39, 40, 41, 42, 43, 16, 14, 44, 45, 46, 47, 25, 48, 49, 50, 51, 52, 53, 54, 23, 17, 15, 55, 56, 57, 58, 59, 60, 61, 62, 63, 64, 65, 66, 67, 68, 69, 70, 71, 72, 73, 74, 75, 76, 77, 78, 79, 80, 81, 82, 24, 22, 83, 84, 85, 86, 87, 88, 89, 90, 91, 92, 93, 94, 95, 96, 97, 98, 99, 100, 101, 102, 103, 104, 105, 106, 107] (by decide +kernel) (by decide +kernel)
set_option maxRecDepth 20000 in
theorem gX4_wits_X4_bitIfRead : GoodIn wsX4_wits (wsV RX4 161 RX4 yX4_bitIfRead wsX4_bitIfRead) := goodIn_app (goodIn_of _ (by decide +kernel)) ggX4_wits_X4_bitIfRead
theorem dX4_wits_0 : decode cX4_wits 0 = .ok (.aload_n 0, 1) := by decide +kernel
theorem dX4_wits_1 : decode cX4_wits 1 = .ok (.iload_n 1, 1) := by decide +kernel
theorem dX4_wits_2 : decode cX4_wits 2 = .ok (.invokevirtual 79, 3) := by decide +kernel
theorem dX4_wits_5 : decode cX4_wits 5 = .ok (.ifCond .ne 5, 3) := by decide +kernel
theorem dX4_wits_8 : decode cX4_wits 8 = .ok (.iconst (-1), 1) := by decide +kernel
theorem dX4_wits_9 : decode cX4_wits 9 = .ok (.ireturn, 1) := by decide +kernel
theorem dX4_wits_10 : decode cX4_wits 10 = .ok (.aload_n 0, 1) := by decide +kernel
theorem dX4_wits_11 : decode cX4_wits 11 = .ok (.getfield 18, 3) := by decide +kernel
theorem dX4_wits_14 : decode cX4_wits 14 = .ok (.aload_n 0, 1) := by decide +kernel
theorem dX4_wits_15 : decode cX4_wits 15 = .ok (.getfield 12, 3) := by decide +kernel
theorem dX4_wits_18 : decode cX4_wits 18 = .ok (.invokevirtual 68, 3) := by decide +kernel
theorem dX4_wits_21 : decode cX4_wits 21 = .ok (.iconst 0, 1) := by decide +kernel
theorem dX4_wits_22 : decode cX4_wits 22 = .ok (.istore_n 2, 1) := by decide +kernel
theorem dX4_wits_23 : decode cX4_wits 23 = .ok (.iconst 0, 1) := by decide +kernel
theorem dX4_wits_24 : decode cX4_wits 24 = .ok (.istore_n 3, 1) := by decide +kernel
theorem dX4_wits_25 : decode cX4_wits 25 = .ok (.iload_n 3, 1) := by decide +kernel
theorem dX4_wits_26 : decode cX4_wits 26 = .ok (.bipush 10, 2) := by decide +kernel
theorem dX4_wits_28 : decode cX4_wits 28 = .ok (.if_icmp .ge 27, 3) := by decide +kernel
theorem dX4_wits_31 : decode cX4_wits 31 = .ok (.aload_n 0, 1) := by decide +kernel
theorem dX4_wits_32 : decode cX4_wits 32 = .ok (.getfield 18, 3) := by decide +kernel
theorem dX4_wits_35 : decode cX4_wits 35 = .ok (.getfield 86, 3) := by decide +kernel
theorem dX4_wits_38 : decode cX4_wits 38 = .ok (.iload_n 1, 1) := by decide +kernel
theorem dX4_wits_39 : decode cX4_wits 39 = .ok (.iload_n 3, 1) := by decide +kernel
theorem dX4_wits_40 : decode cX4_wits 40 = .ok (.iastore, 1) := by decide +kernel
theorem dX4_wits_41 : decode cX4_wits 41 = .ok (.iload_n 2, 1) := by decide +kernel
theorem dX4_wits_42 : decode cX4_wits 42 = .ok (.aload_n 0, 1) := by decide +kernel
theorem dX4_wits_43 : decode cX4_wits 43 = .ok (.iload_n 3, 1) := by decide +kernel
theorem dX4_wits_44 : decode cX4_wits 44 = .ok (.invokevirtual 161, 3) := by decide +kernel
theorem dX4_wits_47 : decode cX4_wits 47 = .ok (.ior, 1) := by decide +kernel
theorem dX4_wits_48 : decode cX4_wits 48 = .ok (.istore_n 2, 1) := by decide +kernel
theorem dX4_wits_49 : decode cX4_wits 49 = .ok (.iinc 3 1, 3) := by decide +kernel
theorem dX4_wits_52 : decode cX4_wits 52 = .ok (.goto (-27), 3) := by decide +kernel
theorem dX4_wits_55 : decode cX4_wits 55 = .ok (.iload_n 2, 1) := by decide +kernel
theorem dX4_wits_56 : decode cX4_wits 56 = .ok (.ireturn, 1) := by decide +kernel
set_option maxRecDepth 20000 in
theorem ggX4_kinds_X4_isPupil : GoodIn wsX4_kinds wsX4_isPupil := goodIn_r _ [7, 2, 87, 88, 89, 90, 91, 92, 93, 94, 95, 96, 97, 98, 99, 100, 101, 102, 103] (by decide +kernel) (by decide +kernel)
set_option maxRecDepth 20000 in
theorem gX4_kinds_X4_isPupil : GoodIn wsX4_kinds (wsV RX4 79 RX4 yX4_isPupil wsX4_isPupil) := goodIn_app (goodIn_of _ (by decide +kernel)) ggX4_kinds_X4_isPupil
set_option maxRecDepth 20000 in
theorem ggX4_kinds_X2_become : GoodIn wsX4_kinds wsX2_become := goodIn_r _ [12, 13, 14, 15, 16, 17, 18, 19, 20, 21, 22, 23, 24, 25, 26, 27, 28, 29, 94, 95, 96, 97, 98, 99, 100, 101, 102, 103] (by decide +kernel) (by decide +kernel)
set_option maxRecDepth 20000 in
theorem gX4_kinds_X2_become : GoodIn wsX4_kinds (wsV RX4 68 RX2 yX2_become wsX2_become) := goodIn_app (goodIn_of _ (by decide +kernel)) ggX4_kinds_X2_become
set_option maxRecDepth 20000 in
theorem ggX4_kinds_X4_bitIfRead : GoodIn wsX4_kinds wsX4_bitIfRead := goodIn_r _ [33, 1, 34, 35, 36, 37, 11, 38, 13, 39, 40, 41, 42, 43, 16, 14, 44, 45, 46, 47, 25, 48, 49, 50, 51, 52, 53, 54, 23, 17, 15, 55, 56, 57, 58, 59, 60, 61, 62, 63, 64, 65, 66, 67, 68, 69, 70, 71, 72, 73, 74, 75, 76, 77, 78, 79, 80, 81, 82, 24, 22, 83, 84, 85, 86, 87, 88, 89, 90, 91, 92, 93, 94, 95, 96, 97, 98, 99, 100, 101, 102, 103, 104, 105, 106, 107] (by decide +kernel) (by decide +kernel)
set_option maxRecDepth 20000 in
theorem gX4_kinds_X4_bitIfRead : GoodIn wsX4_kinds (wsV RX4 161 RX4 yX4_bitIfRead wsX4_bitIfRead) := goodIn_app (goodIn_of _ (by decide +kernel)) ggX4_kinds_X4_bitIfRead
theorem dX4_kinds_0 : decode cX4_kinds 0 = .ok (.aload_n 0, 1) := by decide +kernel
theorem dX4_kinds_1 : decode cX4_kinds 1 = .ok (.iload_n 1, 1) := by decide +kernel
theorem dX4_kinds_2 : decode cX4_kinds 2 = .ok (.invokevirtual 79, 3) := by decide +kernel
theorem dX4_kinds_5 : decode cX4_kinds 5 = .ok (.ifCond .ne 5, 3) := by decide +kernel
theorem dX4_kinds_8 : decode cX4_kinds 8 = .ok (.iconst (-1), 1) := by decide +kernel
theorem dX4_kinds_9 : decode cX4_kinds 9 = .ok (.ireturn, 1) := by decide +kernel
theorem dX4_kinds_10 : decode cX4_kinds 10 = .ok (.aload_n 0, 1) := by decide +kernel
theorem dX4_kinds_11 : decode cX4_kinds 11 = .ok (.getfield 18, 3) := by decide +kernel
theorem dX4_kinds_14 : decode cX4_kinds 14 = .ok (.aload_n 0, 1) := by decide +kernel
theorem dX4_kinds_15 : decode cX4_kinds 15 = .ok (.getfield 12, 3) := by decide +kernel
theorem dX4_kinds_18 : decode cX4_kinds 18 = .ok (.invokevirtual 68, 3) := by decide +kernel
theorem dX4_kinds_21 : decode cX4_kinds 21 = .ok (.iconst 0, 1) := by decide +kernel
theorem dX4_kinds_22 : decode cX4_kinds 22 = .ok (.istore_n 2, 1) := by decide +kernel
theorem dX4_kinds_23 : decode cX4_kinds 23 = .ok (.iconst 0, 1) := by decide +kernel
theorem dX4_kinds_24 : decode cX4_kinds 24 = .ok (.istore_n 3, 1) := by decide +kernel
theorem dX4_kinds_25 : decode cX4_kinds 25 = .ok (.iload_n 3, 1) := by decide +kernel
theorem dX4_kinds_26 : decode cX4_kinds 26 = .ok (.iconst 3, 1) := by decide +kernel
theorem dX4_kinds_27 : decode cX4_kinds 27 = .ok (.if_icmp .ge 27, 3) := by decide +kernel
theorem dX4_kinds_30 : decode cX4_kinds 30 = .ok (.aload_n 0, 1) := by decide +kernel
theorem dX4_kinds_31 : decode cX4_kinds 31 = .ok (.getfield 18, 3) := by decide +kernel
theorem dX4_kinds_34 : decode cX4_kinds 34 = .ok (.getfield 82, 3) := by decide +kernel
theorem dX4_kinds_37 : decode cX4_kinds 37 = .ok (.iload_n 1, 1) := by decide +kernel
theorem dX4_kinds_38 : decode cX4_kinds 38 = .ok (.iload_n 3, 1) := by decide +kernel
theorem dX4_kinds_39 : decode cX4_kinds 39 = .ok (.iastore, 1) := by decide +kernel
theorem dX4_kinds_40 : decode cX4_kinds 40 = .ok (.iload_n 2, 1) := by decide +kernel
theorem dX4_kinds_41 : decode cX4_kinds 41 = .ok (.aload_n 0, 1) := by decide +kernel
theorem dX4_kinds_42 : decode cX4_kinds 42 = .ok (.iload_n 3, 1) := by decide +kernel
theorem dX4_kinds_43 : decode cX4_kinds 43 = .ok (.invokevirtual 161, 3) := by decide +kernel
theorem dX4_kinds_46 : decode cX4_kinds 46 = .ok (.ior, 1) := by decide +kernel
theorem dX4_kinds_47 : decode cX4_kinds 47 = .ok (.istore_n 2, 1) := by decide +kernel
theorem dX4_kinds_48 : decode cX4_kinds 48 = .ok (.iinc 3 1, 3) := by decide +kernel
theorem dX4_kinds_51 : decode cX4_kinds 51 = .ok (.goto (-26), 3) := by decide +kernel
theorem dX4_kinds_54 : decode cX4_kinds 54 = .ok (.iload_n 2, 1) := by decide +kernel
theorem dX4_kinds_55 : decode cX4_kinds 55 = .ok (.ireturn, 1) := by decide +kernel
set_option maxRecDepth 20000 in
theorem ggX4_hards_X4_isDay : GoodIn wsX4_hards wsX4_isDay := goodIn_r _ [7, 2, 87, 88, 89, 90, 91, 92, 93, 94, 95, 96, 97, 98, 99, 100, 101, 102, 103] (by decide +kernel) (by decide +kernel)
set_option maxRecDepth 20000 in
theorem gX4_hards_X4_isDay : GoodIn wsX4_hards (wsV RX4 95 RX4 yX4_isDay wsX4_isDay) := goodIn_app (goodIn_of _ (by decide +kernel)) ggX4_hards_X4_isDay
set_option maxRecDepth 20000 in
theorem ggX4_hards_X2_become : GoodIn wsX4_hards wsX2_become := goodIn_r _ [12, 13, 14, 15, 16, 17, 18, 19, 20, 21, 22, 23, 24, 25, 26, 27, 28, 29, 94, 95, 96, 97, 98, 99, 100, 101, 102, 103] (by decide +kernel) (by decide +kernel)
set_option maxRecDepth 20000 in
theorem gX4_hards_X2_become : GoodIn wsX4_hards (wsV RX4 68 RX2 yX2_become wsX2_become) := goodIn_app (goodIn_of _ (by decide +kernel)) ggX4_hards_X2_become
set_option maxRecDepth 20000 in
theorem ggX4_hards_X4_bitIfRead : GoodIn wsX4_hards wsX4_bitIfRead := goodIn_r _ [33, 1, 34, 35, 36, 37, 11, 38, 13, 39, 40, 41, 42, 43, 16, 14, 44, 45, 46, 47, 25, 48, 49, 50, 51, 52, 53, 54, 23, 17, 15, 55, 56, 57, 58, 59, 60, 61, 62, 63, 64, 65, 66, 67, 68, 69, 70, 71, 72, 73, 74, 75, 76, 77, 78, 79, 80, 81, 82, 24, 22, 83, 84, 85, 86, 87, 88, 89, 90, 91, 92, 93, 94, 95, 96, 97, 98, 99, 100, 101, 102, 103, 104, 105, 106, 107] (by decide +kernel) (by decide +kernel)
set_option maxRecDepth 20000 in
theorem gX4_hards_X4_bitIfRead : GoodIn wsX4_hards (wsV RX4 161 RX4 yX4_bitIfRead wsX4_bitIfRead) := goodIn_app (goodIn_of _ (by decide +kernel)) ggX4_hards_X4_bitIfRead
theorem dX4_hards_0 : decode cX4_hards 0 = .ok (.aload_n 0, 1) := by decide +kernel
theorem dX4_hards_1 : decode cX4_hards 1 = .ok (.iload_n 1, 1) := by decide +kernel
theorem dX4_hards_2 : decode cX4_hards 2 = .ok (.invokevirtual 95, 3) := by decide +kernel
theorem dX4_hards_5 : decode cX4_hards 5 = .ok (.ifCond .ne 5, 3) := by decide +kernel
theorem dX4_hards_8 : decode cX4_hards 8 = .ok (.iconst (-1), 1) := by decide +kernel
theorem dX4_hards_9 : decode cX4_hards 9 = .ok (.ireturn, 1) := by decide +kernel
theorem dX4_hards_10 : decode cX4_hards 10 = .ok (.aload_n 0, 1) := by decide +kernel
theorem dX4_hards_11 : decode cX4_hards 11 = .ok (.getfield 18, 3) := by decide +kernel
theorem dX4_hards_14 : decode cX4_hards 14 = .ok (.aload_n 0, 1) := by decide +kernel
theorem dX4_hards_15 : decode cX4_hards 15 = .ok (.getfield 12, 3) := by decide +kernel
theorem dX4_hards_18 : decode cX4_hards 18 = .ok (.invokevirtual 68, 3) := by decide +kernel
theorem dX4_hards_21 : decode cX4_hards 21 = .ok (.iconst 0, 1) := by decide +kernel
theorem dX4_hards_22 : decode cX4_hards 22 = .ok (.istore_n 2, 1) := by decide +kernel
theorem dX4_hards_23 : decode cX4_hards 23 = .ok (.iconst 0, 1) := by decide +kernel
theorem dX4_hards_24 : decode cX4_hards 24 = .ok (.istore_n 3, 1) := by decide +kernel
theorem dX4_hards_25 : decode cX4_hards 25 = .ok (.iload_n 3, 1) := by decide +kernel
theorem dX4_hards_26 : decode cX4_hards 26 = .ok (.bipush 10, 2) := by decide +kernel
theorem dX4_hards_28 : decode cX4_hards 28 = .ok (.if_icmp .ge 27, 3) := by decide +kernel
theorem dX4_hards_31 : decode cX4_hards 31 = .ok (.aload_n 0, 1) := by decide +kernel
theorem dX4_hards_32 : decode cX4_hards 32 = .ok (.getfield 18, 3) := by decide +kernel
theorem dX4_hards_35 : decode cX4_hards 35 = .ok (.getfield 98, 3) := by decide +kernel
theorem dX4_hards_38 : decode cX4_hards 38 = .ok (.iload_n 1, 1) := by decide +kernel
theorem dX4_hards_39 : decode cX4_hards 39 = .ok (.iload_n 3, 1) := by decide +kernel
theorem dX4_hards_40 : decode cX4_hards 40 = .ok (.iastore, 1) := by decide +kernel
theorem dX4_hards_41 : decode cX4_hards 41 = .ok (.iload_n 2, 1) := by decide +kernel
theorem dX4_hards_42 : decode cX4_hards 42 = .ok (.aload_n 0, 1) := by decide +kernel
theorem dX4_hards_43 : decode cX4_hards 43 = .ok (.iload_n 3, 1) := by decide +kernel
theorem dX4_hards_44 : decode cX4_hards 44 = .ok (.invokevirtual 161, 3) := by decide +kernel
theorem dX4_hards_47 : decode cX4_hards 47 = .ok (.ior, 1) := by decide +kernel
theorem dX4_hards_48 : decode cX4_hards 48 = .ok (.istore_n 2, 1) := by decide +kernel
theorem dX4_hards_49 : decode cX4_hards 49 = .ok (.iinc 3 1, 3) := by decide +kernel
theorem dX4_hards_52 : decode cX4_hards 52 = .ok (.goto (-27), 3) := by decide +kernel
theorem dX4_hards_55 : decode cX4_hards 55 = .ok (.iload_n 2, 1) := by decide +kernel
theorem dX4_hards_56 : decode cX4_hards 56 = .ok (.ireturn, 1) := by decide +kernel
set_option maxRecDepth 20000 in
theorem ggX4_odds_X4_isPupil : GoodIn wsX4_odds wsX4_isPupil := goodIn_r _ [8, 3, 93, 94, 95, 96, 97, 98, 99, 100, 101, 102, 103, 104, 105, 106, 107, 108, 109] (by decide +kernel) (by decide +kernel)
set_option maxRecDepth 20000 in
theorem gX4_odds_X4_isPupil : GoodIn wsX4_odds (wsV RX4 79 RX4 yX4_isPupil wsX4_isPupil) := goodIn_app (goodIn_of _ (by decide +kernel)) ggX4_odds_X4_isPupil
set_option maxRecDepth 20000 in
theorem ggX4_odds_X2_become : GoodIn wsX4_odds wsX2_become := goodIn_r _ [13, 14, 15, 16, 17, 18, 19, 20, 21, 22, 23, 24, 25, 26, 27, 28, 29, 30, 100, 101, 102, 103, 104, 105, 106, 107, 108, 109] (by decide +kernel) (by decide +kernel)
set_option maxRecDepth 20000 in
theorem gX4_odds_X2_become : GoodIn wsX4_odds (wsV RX4 68 RX2 yX2_become wsX2_become) := goodIn_app (goodIn_of _ (by decide +kernel)) ggX4_odds_X2_become
set_option maxRecDepth 20000 in
theorem ggX4_odds_X2_pretendAllDays : GoodIn wsX4_odds wsX2_pretendAllDays := goodIn_r _ [34, 15, 26, 35, 36, 12, 37, 38, 39, 40, 41, 14, 100, 101, 102, 103, 104, 105, 106, 107, 108, 109] (by decide +kernel) (by decide +kernel)
set_option maxRecDepth 20000 in
theorem gX4_odds_X2_pretendAllDays : GoodIn wsX4_odds (wsV RX4 166 RX2 yX2_pretendAllDays wsX2_pretendAllDays) := goodIn_app (goodIn_of _ (by decide +kernel)) ggX4_odds_X2_pretendAllDays
set_option maxRecDepth 20000 in
theorem ggX4_odds_X4_isBishopAsTried : GoodIn wsX4_odds wsX4_isBishopAsTried := goodIn_r _ [45, 2, 46, 47, 48, 12, 49, 14, 50, 51, 52, 53, 54, 17, 15, 55, 56, 57, 58, 26, 35, 36, 37, 59, 60, 61, 62, 24, 18, 16, 63, 64, 65, 66, 67, 68, 69, 70, 71, 72, 73, 74, 75, 76, 77, 78, 79, 80, 81, 82, 83, 84, 85, 25, 23, 86, 87, 88, 89, 93, 94, 95, 96, 97, 98, 99, 100, 101, 102, 103, 104, 105, 106, 107, 108, 109] (by decide +kernel) (by decide +kernel)
set_option maxRecDepth 20000 in
theorem gX4_odds_X4_isBishopAsTried : GoodIn wsX4_odds (wsV RX4 149 RX4 yX4_isBishopAsTried wsX4_isBishopAsTried) := goodIn_app (goodIn_of _ (by decide +kernel)) ggX4_odds_X4_isBishopAsTried
set_option maxRecDepth 20000 in
theorem ggX4_odds_X4_commonDivisor : GoodIn wsX4_odds wsX4_commonDivisor := goodIn_r _ [92] (by decide +kernel) (by decide +kernel)
set_option maxRecDepth 20000 in
theorem gX4_odds_X4_commonDivisor : GoodIn wsX4_odds (va_wsS RX4 169 yX4_commonDivisor wsX4_commonDivisor) := goodIn_app (goodIn_of _ (by decide +kernel)) ggX4_odds_X4_commonDivisor
theorem dX4_odds_0 : decode cX4_odds 0 = .ok (.aload_n 0, 1) := by decide +kernel
theorem dX4_odds_1 : decode cX4_odds 1 = .ok (.iload_n 1, 1) := by decide +kernel
theorem dX4_odds_2 : decode cX4_odds 2 = .ok (.invokevirtual 79, 3) := by decide +kernel
theorem dX4_odds_5 : decode cX4_odds 5 = .ok (.ifCond .eq 12, 3) := by decide +kernel
theorem dX4_odds_8 : decode cX4_odds 8 = .ok (.iload_n 2, 1) := by decide +kernel
theorem dX4_odds_9 : decode cX4_odds 9 = .ok (.ifCond .lt 8, 3) := by decide +kernel
theorem dX4_odds_12 : decode cX4_odds 12 = .ok (.iload_n 2, 1) := by decide +kernel
theorem dX4_odds_13 : decode cX4_odds 13 = .ok (.iconst 1, 1) := by decide +kernel
theorem dX4_odds_14 : decode cX4_odds 14 = .ok (.if_icmp .le 7, 3) := by decide +kernel
theorem dX4_odds_17 : decode cX4_odds 17 = .ok (.ldc2_w 164, 3) := by decide +kernel
theorem dX4_odds_20 : decode cX4_odds 20 = .ok (.lreturn, 1) := by decide +kernel
theorem dX4_odds_21 : decode cX4_odds 21 = .ok (.aload_n 0, 1) := by decide +kernel
theorem dX4_odds_22 : decode cX4_odds 22 = .ok (.getfield 18, 3) := by decide +kernel
theorem dX4_odds_25 : decode cX4_odds 25 = .ok (.aload_n 0, 1) := by decide +kernel
theorem dX4_odds_26 : decode cX4_odds 26 = .ok (.getfield 12, 3) := by decide +kernel
theorem dX4_odds_29 : decode cX4_odds 29 = .ok (.invokevirtual 68, 3) := by decide +kernel
theorem dX4_odds_32 : decode cX4_odds 32 = .ok (.iconst 1, 1) := by decide +kernel
theorem dX4_odds_33 : decode cX4_odds 33 = .ok (.aload_n 0, 1) := by decide +kernel
theorem dX4_odds_34 : decode cX4_odds 34 = .ok (.getfield 12, 3) := by decide +kernel
theorem dX4_odds_37 : decode cX4_odds 37 = .ok (.getfield 76, 3) := by decide +kernel
theorem dX4_odds_40 : decode cX4_odds 40 = .ok (.ishl, 1) := by decide +kernel
theorem dX4_odds_41 : decode cX4_odds 41 = .ok (.istore_n 3, 1) := by decide +kernel
theorem dX4_odds_42 : decode cX4_odds 42 = .ok (.iconst 0, 1) := by decide +kernel
theorem dX4_odds_43 : decode cX4_odds 43 = .ok (.istore 4, 2) := by decide +kernel
theorem dX4_odds_45 : decode cX4_odds 45 = .ok (.iconst 0, 1) := by decide +kernel
theorem dX4_odds_46 : decode cX4_odds 46 = .ok (.istore 5, 2) := by decide +kernel
theorem dX4_odds_48 : decode cX4_odds 48 = .ok (.iload 5, 2) := by decide +kernel
theorem dX4_odds_50 : decode cX4_odds 50 = .ok (.iload_n 3, 1) := by decide +kernel
theorem dX4_odds_51 : decode cX4_odds 51 = .ok (.if_icmp .ge 29, 3) := by decide +kernel
theorem dX4_odds_54 : decode cX4_odds 54 = .ok (.aload_n 0, 1) := by decide +kernel
theorem dX4_odds_55 : decode cX4_odds 55 = .ok (.getfield 18, 3) := by decide +kernel
theorem dX4_odds_58 : decode cX4_odds 58 = .ok (.iload 5, 2) := by decide +kernel
theorem dX4_odds_60 : decode cX4_odds 60 = .ok (.invokevirtual 166, 3) := by decide +kernel
theorem dX4_odds_63 : decode cX4_odds 63 = .ok (.aload_n 0, 1) := by decide +kernel
theorem dX4_odds_64 : decode cX4_odds 64 = .ok (.iload_n 1, 1) := by decide +kernel
theorem dX4_odds_65 : decode cX4_odds 65 = .ok (.invokevirtual 149, 3) := by decide +kernel
theorem dX4_odds_68 : decode cX4_odds 68 = .ok (.ifCond .eq 6, 3) := by decide +kernel
theorem dX4_odds_71 : decode cX4_odds 71 = .ok (.iinc 4 1, 3) := by decide +kernel
theorem dX4_odds_74 : decode cX4_odds 74 = .ok (.iinc 5 1, 3) := by decide +kernel
theorem dX4_odds_77 : decode cX4_odds 77 = .ok (.goto (-29), 3) := by decide +kernel
theorem dX4_odds_80 : decode cX4_odds 80 = .ok (.iload_n 3, 1) := by decide +kernel
theorem dX4_odds_81 : decode cX4_odds 81 = .ok (.iload 4, 2) := by decide +kernel
theorem dX4_odds_83 : decode cX4_odds 83 = .ok (.invokestatic 169, 3) := by decide +kernel
theorem dX4_odds_86 : decode cX4_odds 86 = .ok (.istore 5, 2) := by decide +kernel
theorem dX4_odds_88 : decode cX4_odds 88 = .ok (.iload_n 2, 1) := by decide +kernel
theorem dX4_odds_89 : decode cX4_odds 89 = .ok (.ifCond .ne 12, 3) := by decide +kernel
theorem dX4_odds_92 : decode cX4_odds 92 = .ok (.iload 4, 2) := by decide +kernel
theorem dX4_odds_94 : decode cX4_odds 94 = .ok (.iload 5, 2) := by decide +kernel
theorem dX4_odds_96 : decode cX4_odds 96 = .ok (.idiv, 1) := by decide +kernel
theorem dX4_odds_97 : decode cX4_odds 97 = .ok (.i2l, 1) := by decide +kernel
theorem dX4_odds_98 : decode cX4_odds 98 = .ok (.goto 8, 3) := by decide +kernel
theorem dX4_odds_101 : decode cX4_odds 101 = .ok (.iload_n 3, 1) := by decide +kernel
theorem dX4_odds_102 : decode cX4_odds 102 = .ok (.iload 5, 2) := by decide +kernel
theorem dX4_odds_104 : decode cX4_odds 104 = .ok (.idiv, 1) := by decide +kernel
theorem dX4_odds_105 : decode cX4_odds 105 = .ok (.i2l, 1) := by decide +kernel
theorem dX4_odds_106 : decode cX4_odds 106 = .ok (.lreturn, 1) := by decide +kernel
set_option maxRecDepth 20000 in
theorem ggX4_sheet_X4_isSheet : GoodIn wsX4_sheet wsX4_isSheet := goodIn_r _ [6] (by decide +kernel) (by decide +kernel)
set_option maxRecDepth 20000 in
theorem gX4_sheet_X4_isSheet : GoodIn wsX4_sheet (va_wsS RX4 46 yX4_isSheet wsX4_isSheet) := goodIn_app (goodIn_of _ (by decide +kernel)) ggX4_sheet_X4_isSheet
set_option maxRecDepth 20000 in
theorem ggX4_sheet_X4_isLane : GoodIn wsX4_sheet wsX4_isLane := goodIn_r _ [9] (by decide +kernel) (by decide +kernel)
set_option maxRecDepth 20000 in
theorem gX4_sheet_X4_isLane : GoodIn wsX4_sheet (va_wsS RX4 50 yX4_isLane wsX4_isLane) := goodIn_app (goodIn_of _ (by decide +kernel)) ggX4_sheet_X4_isLane
set_option maxRecDepth 20000 in
theorem ggX4_sheet_X4_fail : GoodIn wsX4_sheet wsX4_fail := goodIn_r _ [13, 1, 29, 30, 31, 32, 33, 34, 35] (by decide +kernel) (by decide +kernel)
set_option maxRecDepth 20000 in
theorem gX4_sheet_X4_fail : GoodIn wsX4_sheet (wsV RX4 57 RX4 yX4_fail wsX4_fail) := goodIn_app (goodIn_of _ (by decide +kernel)) ggX4_sheet_X4_fail
set_option maxRecDepth 20000 in
theorem ggX4_sheet_X3_renew : GoodIn wsX4_sheet wsX3_renew := goodIn_r _ [18, 19, 20, 21, 22, 23, 24, 25, 26, 27, 28, 36, 37, 38] (by decide +kernel) (by decide +kernel)
set_option maxRecDepth 20000 in
theorem gX4_sheet_X3_renew : GoodIn wsX4_sheet (wsV RX4 173 RX3 yX3_renew wsX3_renew) := goodIn_app (goodIn_of _ (by decide +kernel)) ggX4_sheet_X3_renew
theorem dX4_sheet_0 : decode cX4_sheet 0 = .ok (.aload_n 0, 1) := by decide +kernel
theorem dX4_sheet_1 : decode cX4_sheet 1 = .ok (.iconst 0, 1) := by decide +kernel
theorem dX4_sheet_2 : decode cX4_sheet 2 = .ok (.putfield 42, 3) := by decide +kernel
theorem dX4_sheet_5 : decode cX4_sheet 5 = .ok (.iload_n 1, 1) := by decide +kernel
theorem dX4_sheet_6 : decode cX4_sheet 6 = .ok (.invokestatic 46, 3) := by decide +kernel
theorem dX4_sheet_9 : decode cX4_sheet 9 = .ok (.ifCond .ne 5, 3) := by decide +kernel
theorem dX4_sheet_12 : decode cX4_sheet 12 = .ok (.iconst (-1), 1) := by decide +kernel
theorem dX4_sheet_13 : decode cX4_sheet 13 = .ok (.ireturn, 1) := by decide +kernel
theorem dX4_sheet_14 : decode cX4_sheet 14 = .ok (.iload_n 2, 1) := by decide +kernel
theorem dX4_sheet_15 : decode cX4_sheet 15 = .ok (.invokestatic 50, 3) := by decide +kernel
theorem dX4_sheet_18 : decode cX4_sheet 18 = .ok (.ifCond .eq 9, 3) := by decide +kernel
theorem dX4_sheet_21 : decode cX4_sheet 21 = .ok (.iload_n 3, 1) := by decide +kernel
theorem dX4_sheet_22 : decode cX4_sheet 22 = .ok (.bipush 60, 2) := by decide +kernel
theorem dX4_sheet_24 : decode cX4_sheet 24 = .ok (.if_icmp .le 6, 3) := by decide +kernel
theorem dX4_sheet_27 : decode cX4_sheet 27 = .ok (.bipush (-2), 2) := by decide +kernel
theorem dX4_sheet_29 : decode cX4_sheet 29 = .ok (.ireturn, 1) := by decide +kernel
theorem dX4_sheet_30 : decode cX4_sheet 30 = .ok (.iload_n 3, 1) := by decide +kernel
theorem dX4_sheet_31 : decode cX4_sheet 31 = .ok (.ifCond .ge 9, 3) := by decide +kernel
theorem dX4_sheet_34 : decode cX4_sheet 34 = .ok (.aload_n 0, 1) := by decide +kernel
theorem dX4_sheet_35 : decode cX4_sheet 35 = .ok (.iconst 4, 1) := by decide +kernel
theorem dX4_sheet_36 : decode cX4_sheet 36 = .ok (.invokevirtual 57, 3) := by decide +kernel
theorem dX4_sheet_39 : decode cX4_sheet 39 = .ok (.ireturn, 1) := by decide +kernel
theorem dX4_sheet_40 : decode cX4_sheet 40 = .ok (.aload_n 0, 1) := by decide +kernel
theorem dX4_sheet_41 : decode cX4_sheet 41 = .ok (.getfield 38, 3) := by decide +kernel
theorem dX4_sheet_44 : decode cX4_sheet 44 = .ok (.iload_n 1, 1) := by decide +kernel
theorem dX4_sheet_45 : decode cX4_sheet 45 = .ok (.iload_n 2, 1) := by decide +kernel
theorem dX4_sheet_46 : decode cX4_sheet 46 = .ok (.iload_n 3, 1) := by decide +kernel
theorem dX4_sheet_47 : decode cX4_sheet 47 = .ok (.invokevirtual 173, 3) := by decide +kernel
theorem dX4_sheet_50 : decode cX4_sheet 50 = .ok (.iconst 1, 1) := by decide +kernel
theorem dX4_sheet_51 : decode cX4_sheet 51 = .ok (.ireturn, 1) := by decide +kernel
set_option maxRecDepth 20000 in
theorem ggX4_lose_X4_isSheet : GoodIn wsX4_lose wsX4_isSheet := goodIn_r _ [5] (by decide +kernel) (by decide +kernel)
set_option maxRecDepth 20000 in
theorem gX4_lose_X4_isSheet : GoodIn wsX4_lose (va_wsS RX4 46 yX4_isSheet wsX4_isSheet) := goodIn_app (goodIn_of _ (by decide +kernel)) ggX4_lose_X4_isSheet
set_option maxRecDepth 20000 in
theorem ggX4_lose_X3_drop : GoodIn wsX4_lose wsX3_drop := goodIn_r _ [10, 11, 12, 13, 14, 15, 9, 16, 24, 25, 26] (by decide +kernel) (by decide +kernel)
set_option maxRecDepth 20000 in
theorem gX4_lose_X3_drop : GoodIn wsX4_lose (wsV RX4 177 RX3 yX3_drop wsX3_drop) := goodIn_app (goodIn_of _ (by decide +kernel)) ggX4_lose_X3_drop
theorem dX4_lose_0 : decode cX4_lose 0 = .ok (.iload_n 1, 1) := by decide +kernel
theorem dX4_lose_1 : decode cX4_lose 1 = .ok (.invokestatic 46, 3) := by decide +kernel
theorem dX4_lose_4 : decode cX4_lose 4 = .ok (.ifCond .ne 5, 3) := by decide +kernel
theorem dX4_lose_7 : decode cX4_lose 7 = .ok (.iconst (-1), 1) := by decide +kernel
theorem dX4_lose_8 : decode cX4_lose 8 = .ok (.ireturn, 1) := by decide +kernel
theorem dX4_lose_9 : decode cX4_lose 9 = .ok (.aload_n 0, 1) := by decide +kernel
theorem dX4_lose_10 : decode cX4_lose 10 = .ok (.getfield 38, 3) := by decide +kernel
theorem dX4_lose_13 : decode cX4_lose 13 = .ok (.iload_n 1, 1) := by decide +kernel
theorem dX4_lose_14 : decode cX4_lose 14 = .ok (.invokevirtual 177, 3) := by decide +kernel
theorem dX4_lose_17 : decode cX4_lose 17 = .ok (.ifCond .eq 7, 3) := by decide +kernel
theorem dX4_lose_20 : decode cX4_lose 20 = .ok (.iconst 1, 1) := by decide +kernel
theorem dX4_lose_21 : decode cX4_lose 21 = .ok (.goto 4, 3) := by decide +kernel
theorem dX4_lose_24 : decode cX4_lose 24 = .ok (.iconst 0, 1) := by decide +kernel
theorem dX4_lose_25 : decode cX4_lose 25 = .ok (.ireturn, 1) := by decide +kernel
set_option maxRecDepth 20000 in
theorem ggX4_put_X4_isSheet : GoodIn wsX4_put wsX4_isSheet := goodIn_r _ [6] (by decide +kernel) (by decide +kernel)
set_option maxRecDepth 20000 in
theorem gX4_put_X4_isSheet : GoodIn wsX4_put (va_wsS RX4 46 yX4_isSheet wsX4_isSheet) := goodIn_app (goodIn_of _ (by decide +kernel)) ggX4_put_X4_isSheet
set_option maxRecDepth 20000 in
theorem ggX4_put_X3_hasRow : GoodIn wsX4_put wsX3_hasRow := goodIn_r _ [11, 12, 37, 38, 39] (by decide +kernel) (by decide +kernel)
set_option maxRecDepth 20000 in
theorem gX4_put_X3_hasRow : GoodIn wsX4_put (wsV RX4 180 RX3 yX3_hasRow wsX3_hasRow) := goodIn_app (goodIn_of _ (by decide +kernel)) ggX4_put_X3_hasRow
set_option maxRecDepth 20000 in
theorem ggX4_put_X4_fail : GoodIn wsX4_put wsX4_fail := goodIn_r _ [16, 1, 30, 31, 32, 33, 34, 35, 36] (by decide +kernel) (by decide +kernel)
set_option maxRecDepth 20000 in
theorem gX4_put_X4_fail : GoodIn wsX4_put (wsV RX4 57 RX4 yX4_fail wsX4_fail) := goodIn_app (goodIn_of _ (by decide +kernel)) ggX4_put_X4_fail
set_option maxRecDepth 20000 in
theorem ggX4_put_X3_hasPlace : GoodIn wsX4_put wsX3_hasPlace := goodIn_r _ [20, 21, 37, 38, 39] (by decide +kernel) (by decide +kernel)
set_option maxRecDepth 20000 in
theorem gX4_put_X3_hasPlace : GoodIn wsX4_put (wsV RX4 183 RX3 yX3_hasPlace wsX3_hasPlace) := goodIn_app (goodIn_of _ (by decide +kernel)) ggX4_put_X3_hasPlace
set_option maxRecDepth 20000 in
theorem ggX4_put_X3_write : GoodIn wsX4_put wsX3_write := goodIn_r _ [25, 26, 12, 27, 28, 10, 29, 37, 38, 39] (by decide +kernel) (by decide +kernel)
set_option maxRecDepth 20000 in
theorem gX4_put_X3_write : GoodIn wsX4_put (wsV RX4 186 RX3 yX3_write wsX3_write) := goodIn_app (goodIn_of _ (by decide +kernel)) ggX4_put_X3_write
theorem dX4_put_0 : decode cX4_put 0 = .ok (.aload_n 0, 1) := by decide +kernel
theorem dX4_put_1 : decode cX4_put 1 = .ok (.iconst 0, 1) := by decide +kernel
theorem dX4_put_2 : decode cX4_put 2 = .ok (.putfield 42, 3) := by decide +kernel
theorem dX4_put_5 : decode cX4_put 5 = .ok (.iload_n 1, 1) := by decide +kernel
theorem dX4_put_6 : decode cX4_put 6 = .ok (.invokestatic 46, 3) := by decide +kernel
theorem dX4_put_9 : decode cX4_put 9 = .ok (.ifCond .ne 5, 3) := by decide +kernel
theorem dX4_put_12 : decode cX4_put 12 = .ok (.iconst (-1), 1) := by decide +kernel
theorem dX4_put_13 : decode cX4_put 13 = .ok (.ireturn, 1) := by decide +kernel
theorem dX4_put_14 : decode cX4_put 14 = .ok (.aload_n 0, 1) := by decide +kernel
theorem dX4_put_15 : decode cX4_put 15 = .ok (.getfield 38, 3) := by decide +kernel
theorem dX4_put_18 : decode cX4_put 18 = .ok (.iload_n 1, 1) := by decide +kernel
theorem dX4_put_19 : decode cX4_put 19 = .ok (.invokevirtual 180, 3) := by decide +kernel
theorem dX4_put_22 : decode cX4_put 22 = .ok (.ifCond .ne 9, 3) := by decide +kernel
theorem dX4_put_25 : decode cX4_put 25 = .ok (.aload_n 0, 1) := by decide +kernel
theorem dX4_put_26 : decode cX4_put 26 = .ok (.iconst 1, 1) := by decide +kernel
theorem dX4_put_27 : decode cX4_put 27 = .ok (.invokevirtual 57, 3) := by decide +kernel
theorem dX4_put_30 : decode cX4_put 30 = .ok (.ireturn, 1) := by decide +kernel
theorem dX4_put_31 : decode cX4_put 31 = .ok (.aload_n 0, 1) := by decide +kernel
theorem dX4_put_32 : decode cX4_put 32 = .ok (.getfield 38, 3) := by decide +kernel
theorem dX4_put_35 : decode cX4_put 35 = .ok (.iload_n 1, 1) := by decide +kernel
theorem dX4_put_36 : decode cX4_put 36 = .ok (.iload_n 2, 1) := by decide +kernel
theorem dX4_put_37 : decode cX4_put 37 = .ok (.invokevirtual 183, 3) := by decide +kernel
theorem dX4_put_40 : decode cX4_put 40 = .ok (.ifCond .ne 9, 3) := by decide +kernel
theorem dX4_put_43 : decode cX4_put 43 = .ok (.aload_n 0, 1) := by decide +kernel
theorem dX4_put_44 : decode cX4_put 44 = .ok (.iconst 3, 1) := by decide +kernel
theorem dX4_put_45 : decode cX4_put 45 = .ok (.invokevirtual 57, 3) := by decide +kernel
theorem dX4_put_48 : decode cX4_put 48 = .ok (.ireturn, 1) := by decide +kernel
theorem dX4_put_49 : decode cX4_put 49 = .ok (.aload_n 0, 1) := by decide +kernel
theorem dX4_put_50 : decode cX4_put 50 = .ok (.getfield 38, 3) := by decide +kernel
theorem dX4_put_53 : decode cX4_put 53 = .ok (.iload_n 1, 1) := by decide +kernel
theorem dX4_put_54 : decode cX4_put 54 = .ok (.iload_n 2, 1) := by decide +kernel
theorem dX4_put_55 : decode cX4_put 55 = .ok (.iload_n 3, 1) := by decide +kernel
theorem dX4_put_56 : decode cX4_put 56 = .ok (.invokevirtual 186, 3) := by decide +kernel
theorem dX4_put_59 : decode cX4_put 59 = .ok (.iconst 1, 1) := by decide +kernel
theorem dX4_put_60 : decode cX4_put 60 = .ok (.ireturn, 1) := by decide +kernel
set_option maxRecDepth 20000 in
theorem ggX4_cell_X4_isSheet : GoodIn wsX4_cell wsX4_isSheet := goodIn_r _ [7] (by decide +kernel) (by decide +kernel)
set_option maxRecDepth 20000 in
theorem gX4_cell_X4_isSheet : GoodIn wsX4_cell (va_wsS RX4 46 yX4_isSheet wsX4_isSheet) := goodIn_app (goodIn_of _ (by decide +kernel)) ggX4_cell_X4_isSheet
set_option maxRecDepth 20000 in
theorem ggX4_cell_X4_isLane : GoodIn wsX4_cell wsX4_isLane := goodIn_r _ [10] (by decide +kernel) (by decide +kernel)
set_option maxRecDepth 20000 in
theorem gX4_cell_X4_isLane : GoodIn wsX4_cell (va_wsS RX4 50 yX4_isLane wsX4_isLane) := goodIn_app (goodIn_of _ (by decide +kernel)) ggX4_cell_X4_isLane
set_option maxRecDepth 20000 in
theorem ggX4_cell_X3_faultOfRow : GoodIn wsX4_cell wsX3_faultOfRow := goodIn_r _ [15, 16, 17, 18, 19, 14, 20, 38, 39, 40] (by decide +kernel) (by decide +kernel)
set_option maxRecDepth 20000 in
theorem gX4_cell_X3_faultOfRow : GoodIn wsX4_cell (wsV RX4 189 RX3 yX3_faultOfRow wsX3_faultOfRow) := goodIn_app (goodIn_of _ (by decide +kernel)) ggX4_cell_X3_faultOfRow
set_option maxRecDepth 20000 in
theorem ggX4_cell_X3_hasPlace : GoodIn wsX4_cell wsX3_hasPlace := goodIn_r _ [24, 25, 38, 39, 40] (by decide +kernel) (by decide +kernel)
set_option maxRecDepth 20000 in
theorem gX4_cell_X3_hasPlace : GoodIn wsX4_cell (wsV RX4 183 RX3 yX3_hasPlace wsX3_hasPlace) := goodIn_app (goodIn_of _ (by decide +kernel)) ggX4_cell_X3_hasPlace
set_option maxRecDepth 20000 in
theorem ggX4_cell_X3_read : GoodIn wsX4_cell wsX3_read := goodIn_r _ [29, 30, 38, 39, 40] (by decide +kernel) (by decide +kernel)
set_option maxRecDepth 20000 in
theorem gX4_cell_X3_read : GoodIn wsX4_cell (wsV RX4 192 RX3 yX3_read wsX3_read) := goodIn_app (goodIn_of _ (by decide +kernel)) ggX4_cell_X3_read
theorem dX4_cell_0 : decode cX4_cell 0 = .ok (.aload_n 0, 1) := by decide +kernel
theorem dX4_cell_1 : decode cX4_cell 1 = .ok (.iconst 0, 1) := by decide +kernel
theorem dX4_cell_2 : decode cX4_cell 2 = .ok (.putfield 42, 3) := by decide +kernel
theorem dX4_cell_5 : decode cX4_cell 5 = .ok (.iload_n 1, 1) := by decide +kernel
theorem dX4_cell_6 : decode cX4_cell 6 = .ok (.invokestatic 46, 3) := by decide +kernel
theorem dX4_cell_9 : decode cX4_cell 9 = .ok (.ifCond .eq 10, 3) := by decide +kernel
theorem dX4_cell_12 : decode cX4_cell 12 = .ok (.iload_n 3, 1) := by decide +kernel
theorem dX4_cell_13 : decode cX4_cell 13 = .ok (.invokestatic 50, 3) := by decide +kernel
theorem dX4_cell_16 : decode cX4_cell 16 = .ok (.ifCond .ne 7, 3) := by decide +kernel
theorem dX4_cell_19 : decode cX4_cell 19 = .ok (.ldc2_w 164, 3) := by decide +kernel
theorem dX4_cell_22 : decode cX4_cell 22 = .ok (.lreturn, 1) := by decide +kernel
theorem dX4_cell_23 : decode cX4_cell 23 = .ok (.aload_n 0, 1) := by decide +kernel
theorem dX4_cell_24 : decode cX4_cell 24 = .ok (.aload_n 0, 1) := by decide +kernel
theorem dX4_cell_25 : decode cX4_cell 25 = .ok (.getfield 38, 3) := by decide +kernel
theorem dX4_cell_28 : decode cX4_cell 28 = .ok (.iload_n 1, 1) := by decide +kernel
theorem dX4_cell_29 : decode cX4_cell 29 = .ok (.iload_n 3, 1) := by decide +kernel
theorem dX4_cell_30 : decode cX4_cell 30 = .ok (.invokevirtual 189, 3) := by decide +kernel
theorem dX4_cell_33 : decode cX4_cell 33 = .ok (.putfield 42, 3) := by decide +kernel
theorem dX4_cell_36 : decode cX4_cell 36 = .ok (.aload_n 0, 1) := by decide +kernel
theorem dX4_cell_37 : decode cX4_cell 37 = .ok (.getfield 42, 3) := by decide +kernel
theorem dX4_cell_40 : decode cX4_cell 40 = .ok (.ifCond .ne 20, 3) := by decide +kernel
theorem dX4_cell_43 : decode cX4_cell 43 = .ok (.aload_n 0, 1) := by decide +kernel
theorem dX4_cell_44 : decode cX4_cell 44 = .ok (.getfield 38, 3) := by decide +kernel
theorem dX4_cell_47 : decode cX4_cell 47 = .ok (.iload_n 1, 1) := by decide +kernel
theorem dX4_cell_48 : decode cX4_cell 48 = .ok (.iload_n 2, 1) := by decide +kernel
theorem dX4_cell_49 : decode cX4_cell 49 = .ok (.invokevirtual 183, 3) := by decide +kernel
theorem dX4_cell_52 : decode cX4_cell 52 = .ok (.ifCond .ne 8, 3) := by decide +kernel
theorem dX4_cell_55 : decode cX4_cell 55 = .ok (.aload_n 0, 1) := by decide +kernel
theorem dX4_cell_56 : decode cX4_cell 56 = .ok (.iconst 3, 1) := by decide +kernel
theorem dX4_cell_57 : decode cX4_cell 57 = .ok (.putfield 42, 3) := by decide +kernel
theorem dX4_cell_60 : decode cX4_cell 60 = .ok (.aload_n 0, 1) := by decide +kernel
theorem dX4_cell_61 : decode cX4_cell 61 = .ok (.getfield 42, 3) := by decide +kernel
theorem dX4_cell_64 : decode cX4_cell 64 = .ok (.ifCond .ne 16, 3) := by decide +kernel
theorem dX4_cell_67 : decode cX4_cell 67 = .ok (.aload_n 0, 1) := by decide +kernel
theorem dX4_cell_68 : decode cX4_cell 68 = .ok (.getfield 38, 3) := by decide +kernel
theorem dX4_cell_71 : decode cX4_cell 71 = .ok (.iload_n 1, 1) := by decide +kernel
theorem dX4_cell_72 : decode cX4_cell 72 = .ok (.iload_n 2, 1) := by decide +kernel
theorem dX4_cell_73 : decode cX4_cell 73 = .ok (.invokevirtual 192, 3) := by decide +kernel
theorem dX4_cell_76 : decode cX4_cell 76 = .ok (.i2l, 1) := by decide +kernel
theorem dX4_cell_77 : decode cX4_cell 77 = .ok (.goto 6, 3) := by decide +kernel
theorem dX4_cell_80 : decode cX4_cell 80 = .ok (.ldc2_w 164, 3) := by decide +kernel
theorem dX4_cell_83 : decode cX4_cell 83 = .ok (.lreturn, 1) := by decide +kernel
set_option maxRecDepth 20000 in
theorem ggX4_copy_X4_isSheet : GoodIn wsX4_copy wsX4_isSheet := goodIn_r _ [6] (by decide +kernel) (by decide +kernel)
set_option maxRecDepth 20000 in
theorem gX4_copy_X4_isSheet : GoodIn wsX4_copy (va_wsS RX4 46 yX4_isSheet wsX4_isSheet) := goodIn_app (goodIn_of _ (by decide +kernel)) ggX4_copy_X4_isSheet
set_option maxRecDepth 20000 in
theorem ggX4_copy_X3_hasRow : GoodIn wsX4_copy wsX3_hasRow := goodIn_r _ [11, 12, 38, 39, 40] (by decide +kernel) (by decide +kernel)
set_option maxRecDepth 20000 in
theorem gX4_copy_X3_hasRow : GoodIn wsX4_copy (wsV RX4 180 RX3 yX3_hasRow wsX3_hasRow) := goodIn_app (goodIn_of _ (by decide +kernel)) ggX4_copy_X3_hasRow
set_option maxRecDepth 20000 in
theorem ggX4_copy_X4_fail : GoodIn wsX4_copy wsX4_fail := goodIn_r _ [16, 1, 31, 32, 33, 34, 35, 36, 37] (by decide +kernel) (by decide +kernel)
set_option maxRecDepth 20000 in
theorem gX4_copy_X4_fail : GoodIn wsX4_copy (wsV RX4 57 RX4 yX4_fail wsX4_fail) := goodIn_app (goodIn_of _ (by decide +kernel)) ggX4_copy_X4_fail
set_option maxRecDepth 20000 in
theorem ggX4_copy_X3_hasPlaces : GoodIn wsX4_copy wsX3_hasPlaces := goodIn_r _ [20, 21, 38, 39, 40] (by decide +kernel) (by decide +kernel)
set_option maxRecDepth 20000 in
theorem gX4_copy_X3_hasPlaces : GoodIn wsX4_copy (wsV RX4 198 RX3 yX3_hasPlaces wsX3_hasPlaces) := goodIn_app (goodIn_of _ (by decide +kernel)) ggX4_copy_X3_hasPlaces
set_option maxRecDepth 20000 in
theorem ggX4_copy_X3_carry : GoodIn wsX4_copy wsX3_carry := goodIn_r _ [25, 26, 27, 28, 29, 30, 38, 39, 40] (by decide +kernel) (by decide +kernel)
set_option maxRecDepth 20000 in
theorem gX4_copy_X3_carry : GoodIn wsX4_copy (wsV RX4 202 RX3 yX3_carry wsX3_carry) := goodIn_app (goodIn_of _ (by decide +kernel)) ggX4_copy_X3_carry
theorem dX4_copy_0 : decode cX4_copy 0 = .ok (.aload_n 0, 1) := by decide +kernel
theorem dX4_copy_1 : decode cX4_copy 1 = .ok (.iconst 0, 1) := by decide +kernel
theorem dX4_copy_2 : decode cX4_copy 2 = .ok (.putfield 42, 3) := by decide +kernel
theorem dX4_copy_5 : decode cX4_copy 5 = .ok (.iload_n 1, 1) := by decide +kernel
theorem dX4_copy_6 : decode cX4_copy 6 = .ok (.invokestatic 46, 3) := by decide +kernel
theorem dX4_copy_9 : decode cX4_copy 9 = .ok (.ifCond .eq 10, 3) := by decide +kernel
theorem dX4_copy_12 : decode cX4_copy 12 = .ok (.iload_n 3, 1) := by decide +kernel
theorem dX4_copy_13 : decode cX4_copy 13 = .ok (.invokestatic 46, 3) := by decide +kernel
theorem dX4_copy_16 : decode cX4_copy 16 = .ok (.ifCond .ne 5, 3) := by decide +kernel
theorem dX4_copy_19 : decode cX4_copy 19 = .ok (.iconst (-1), 1) := by decide +kernel
theorem dX4_copy_20 : decode cX4_copy 20 = .ok (.ireturn, 1) := by decide +kernel
theorem dX4_copy_21 : decode cX4_copy 21 = .ok (.aload_n 0, 1) := by decide +kernel
theorem dX4_copy_22 : decode cX4_copy 22 = .ok (.getfield 38, 3) := by decide +kernel
theorem dX4_copy_25 : decode cX4_copy 25 = .ok (.iload_n 1, 1) := by decide +kernel
theorem dX4_copy_26 : decode cX4_copy 26 = .ok (.invokevirtual 180, 3) := by decide +kernel
theorem dX4_copy_29 : decode cX4_copy 29 = .ok (.ifCond .eq 14, 3) := by decide +kernel
theorem dX4_copy_32 : decode cX4_copy 32 = .ok (.aload_n 0, 1) := by decide +kernel
theorem dX4_copy_33 : decode cX4_copy 33 = .ok (.getfield 38, 3) := by decide +kernel
theorem dX4_copy_36 : decode cX4_copy 36 = .ok (.iload_n 3, 1) := by decide +kernel
theorem dX4_copy_37 : decode cX4_copy 37 = .ok (.invokevirtual 180, 3) := by decide +kernel
theorem dX4_copy_40 : decode cX4_copy 40 = .ok (.ifCond .ne 9, 3) := by decide +kernel
theorem dX4_copy_43 : decode cX4_copy 43 = .ok (.aload_n 0, 1) := by decide +kernel
theorem dX4_copy_44 : decode cX4_copy 44 = .ok (.iconst 1, 1) := by decide +kernel
theorem dX4_copy_45 : decode cX4_copy 45 = .ok (.invokevirtual 57, 3) := by decide +kernel
theorem dX4_copy_48 : decode cX4_copy 48 = .ok (.ireturn, 1) := by decide +kernel
theorem dX4_copy_49 : decode cX4_copy 49 = .ok (.aload_n 0, 1) := by decide +kernel
theorem dX4_copy_50 : decode cX4_copy 50 = .ok (.getfield 38, 3) := by decide +kernel
theorem dX4_copy_53 : decode cX4_copy 53 = .ok (.getfield 195, 3) := by decide +kernel
theorem dX4_copy_56 : decode cX4_copy 56 = .ok (.iload_n 1, 1) := by decide +kernel
theorem dX4_copy_57 : decode cX4_copy 57 = .ok (.iaload, 1) := by decide +kernel
theorem dX4_copy_58 : decode cX4_copy 58 = .ok (.aload_n 0, 1) := by decide +kernel
theorem dX4_copy_59 : decode cX4_copy 59 = .ok (.getfield 38, 3) := by decide +kernel
theorem dX4_copy_62 : decode cX4_copy 62 = .ok (.getfield 195, 3) := by decide +kernel
theorem dX4_copy_65 : decode cX4_copy 65 = .ok (.iload_n 3, 1) := by decide +kernel
theorem dX4_copy_66 : decode cX4_copy 66 = .ok (.iaload, 1) := by decide +kernel
theorem dX4_copy_67 : decode cX4_copy 67 = .ok (.if_icmp .eq 9, 3) := by decide +kernel
theorem dX4_copy_70 : decode cX4_copy 70 = .ok (.aload_n 0, 1) := by decide +kernel
theorem dX4_copy_71 : decode cX4_copy 71 = .ok (.iconst 2, 1) := by decide +kernel
theorem dX4_copy_72 : decode cX4_copy 72 = .ok (.invokevirtual 57, 3) := by decide +kernel
theorem dX4_copy_75 : decode cX4_copy 75 = .ok (.ireturn, 1) := by decide +kernel
theorem dX4_copy_76 : decode cX4_copy 76 = .ok (.iload 5, 2) := by decide +kernel
theorem dX4_copy_78 : decode cX4_copy 78 = .ok (.ifCond .lt 32, 3) := by decide +kernel
theorem dX4_copy_81 : decode cX4_copy 81 = .ok (.aload_n 0, 1) := by decide +kernel
theorem dX4_copy_82 : decode cX4_copy 82 = .ok (.getfield 38, 3) := by decide +kernel
theorem dX4_copy_85 : decode cX4_copy 85 = .ok (.iload_n 1, 1) := by decide +kernel
theorem dX4_copy_86 : decode cX4_copy 86 = .ok (.iload_n 2, 1) := by decide +kernel
theorem dX4_copy_87 : decode cX4_copy 87 = .ok (.iload 5, 2) := by decide +kernel
theorem dX4_copy_89 : decode cX4_copy 89 = .ok (.invokevirtual 198, 3) := by decide +kernel
theorem dX4_copy_92 : decode cX4_copy 92 = .ok (.ifCond .eq 18, 3) := by decide +kernel
theorem dX4_copy_95 : decode cX4_copy 95 = .ok (.aload_n 0, 1) := by decide +kernel
theorem dX4_copy_96 : decode cX4_copy 96 = .ok (.getfield 38, 3) := by decide +kernel
theorem dX4_copy_99 : decode cX4_copy 99 = .ok (.iload_n 3, 1) := by decide +kernel
theorem dX4_copy_100 : decode cX4_copy 100 = .ok (.iload 4, 2) := by decide +kernel
theorem dX4_copy_102 : decode cX4_copy 102 = .ok (.iload 5, 2) := by decide +kernel
theorem dX4_copy_104 : decode cX4_copy 104 = .ok (.invokevirtual 198, 3) := by decide +kernel
theorem dX4_copy_107 : decode cX4_copy 107 = .ok (.ifCond .ne 9, 3) := by decide +kernel
theorem dX4_copy_110 : decode cX4_copy 110 = .ok (.aload_n 0, 1) := by decide +kernel
theorem dX4_copy_111 : decode cX4_copy 111 = .ok (.iconst 3, 1) := by decide +kernel
theorem dX4_copy_112 : decode cX4_copy 112 = .ok (.invokevirtual 57, 3) := by decide +kernel
theorem dX4_copy_115 : decode cX4_copy 115 = .ok (.ireturn, 1) := by decide +kernel
theorem dX4_copy_116 : decode cX4_copy 116 = .ok (.aload_n 0, 1) := by decide +kernel
theorem dX4_copy_117 : decode cX4_copy 117 = .ok (.getfield 38, 3) := by decide +kernel
theorem dX4_copy_120 : decode cX4_copy 120 = .ok (.iload_n 1, 1) := by decide +kernel
theorem dX4_copy_121 : decode cX4_copy 121 = .ok (.iload_n 2, 1) := by decide +kernel
theorem dX4_copy_122 : decode cX4_copy 122 = .ok (.iload_n 3, 1) := by decide +kernel
theorem dX4_copy_123 : decode cX4_copy 123 = .ok (.iload 4, 2) := by decide +kernel
theorem dX4_copy_125 : decode cX4_copy 125 = .ok (.iload 5, 2) := by decide +kernel
theorem dX4_copy_127 : decode cX4_copy 127 = .ok (.invokevirtual 202, 3) := by decide +kernel
theorem dX4_copy_130 : decode cX4_copy 130 = .ok (.iload 5, 2) := by decide +kernel
theorem dX4_copy_132 : decode cX4_copy 132 = .ok (.ireturn, 1) := by decide +kernel
set_option maxRecDepth 20000 in
theorem ggX4_tell_X4_isPupil : GoodIn wsX4_tell wsX4_isPupil := goodIn_r _ [6, 1, 24, 25, 26, 27, 28, 29, 30, 31, 32, 33, 34, 35, 36, 37, 38, 39, 40] (by decide +kernel) (by decide +kernel)
set_option maxRecDepth 20000 in
theorem gX4_tell_X4_isPupil : GoodIn wsX4_tell (wsV RX4 79 RX4 yX4_isPupil wsX4_isPupil) := goodIn_app (goodIn_of _ (by decide +kernel)) ggX4_tell_X4_isPupil
set_option maxRecDepth 20000 in
theorem ggX4_tell_X4_tellAsCurate : GoodIn wsX4_tell wsX4_tellAsCurate := goodIn_r _ [10, 11, 12, 13, 5, 14, 15, 16, 17, 18, 19, 20, 21, 22, 23, 1, 24, 25, 26, 27, 28, 29, 30, 31, 32, 33, 34, 35, 36, 37, 38, 39, 40] (by decide +kernel) (by decide +kernel)
set_option maxRecDepth 20000 in
theorem gX4_tell_X4_tellAsCurate : GoodIn wsX4_tell (wsV RX4 206 RX4 yX4_tellAsCurate wsX4_tellAsCurate) := goodIn_app (goodIn_of _ (by decide +kernel)) ggX4_tell_X4_tellAsCurate
set_option maxRecDepth 20000 in
theorem ggX4_tell_X4_tellAsDeacon : GoodIn wsX4_tell wsX4_tellAsDeacon := goodIn_r _ [19, 11, 12, 13, 5, 14, 15, 20, 21, 22, 23, 1, 24, 25, 26, 27, 28, 29, 30, 31, 32, 33, 34, 35, 36, 37, 38, 39, 40] (by decide +kernel) (by decide +kernel)
set_option maxRecDepth 20000 in
theorem gX4_tell_X4_tellAsDeacon : GoodIn wsX4_tell (wsV RX4 209 RX4 yX4_tellAsDeacon wsX4_tellAsDeacon) := goodIn_app (goodIn_of _ (by decide +kernel)) ggX4_tell_X4_tellAsDeacon
set_option maxRecDepth 20000 in
theorem ggX4_tell_X4_tellAsPupil : GoodIn wsX4_tell wsX4_tellAsPupil := goodIn_r _ [23, 1, 11, 12, 13, 5, 14, 15, 24, 25, 26, 27, 28, 29, 30, 31, 32, 33, 34, 35, 36, 37, 38, 39, 40] (by decide +kernel) (by decide +kernel)
set_option maxRecDepth 20000 in
theorem gX4_tell_X4_tellAsPupil : GoodIn wsX4_tell (wsV RX4 212 RX4 yX4_tellAsPupil wsX4_tellAsPupil) := goodIn_app (goodIn_of _ (by decide +kernel)) ggX4_tell_X4_tellAsPupil
theorem dX4_tell_0 : decode cX4_tell 0 = .ok (.aload_n 0, 1) := by decide +kernel
theorem dX4_tell_1 : decode cX4_tell 1 = .ok (.iload_n 1, 1) := by decide +kernel
theorem dX4_tell_2 : decode cX4_tell 2 = .ok (.invokevirtual 79, 3) := by decide +kernel
theorem dX4_tell_5 : decode cX4_tell 5 = .ok (.ifCond .ne 5, 3) := by decide +kernel
theorem dX4_tell_8 : decode cX4_tell 8 = .ok (.iconst (-1), 1) := by decide +kernel
theorem dX4_tell_9 : decode cX4_tell 9 = .ok (.ireturn, 1) := by decide +kernel
theorem dX4_tell_10 : decode cX4_tell 10 = .ok (.aload_n 0, 1) := by decide +kernel
theorem dX4_tell_11 : decode cX4_tell 11 = .ok (.getfield 12, 3) := by decide +kernel
theorem dX4_tell_14 : decode cX4_tell 14 = .ok (.getfield 82, 3) := by decide +kernel
theorem dX4_tell_17 : decode cX4_tell 17 = .ok (.iload_n 1, 1) := by decide +kernel
theorem dX4_tell_18 : decode cX4_tell 18 = .ok (.iaload, 1) := by decide +kernel
theorem dX4_tell_19 : decode cX4_tell 19 = .ok (.lookupswitch 37 #[(1, 31), (2, 25)], 25) := by decide +kernel
theorem dX4_tell_44 : decode cX4_tell 44 = .ok (.aload_n 0, 1) := by decide +kernel
theorem dX4_tell_45 : decode cX4_tell 45 = .ok (.iload_n 1, 1) := by decide +kernel
theorem dX4_tell_46 : decode cX4_tell 46 = .ok (.invokevirtual 206, 3) := by decide +kernel
theorem dX4_tell_49 : decode cX4_tell 49 = .ok (.ireturn, 1) := by decide +kernel
theorem dX4_tell_50 : decode cX4_tell 50 = .ok (.aload_n 0, 1) := by decide +kernel
theorem dX4_tell_51 : decode cX4_tell 51 = .ok (.iload_n 1, 1) := by decide +kernel
theorem dX4_tell_52 : decode cX4_tell 52 = .ok (.invokevirtual 209, 3) := by decide +kernel
theorem dX4_tell_55 : decode cX4_tell 55 = .ok (.ireturn, 1) := by decide +kernel
theorem dX4_tell_56 : decode cX4_tell 56 = .ok (.aload_n 0, 1) := by decide +kernel
theorem dX4_tell_57 : decode cX4_tell 57 = .ok (.iload_n 1, 1) := by decide +kernel
theorem dX4_tell_58 : decode cX4_tell 58 = .ok (.invokevirtual 212, 3) := by decide +kernel
theorem dX4_tell_61 : decode cX4_tell 61 = .ok (.ireturn, 1) := by decide +kernel
set_option maxRecDepth 20000 in
theorem ggX4_cap_X4_isPupil : GoodIn wsX4_cap wsX4_isPupil := goodIn_r _ [6, 1, 12, 13, 14, 15, 16, 17, 18, 19, 20, 21, 22, 23, 24, 25, 26, 27, 28] (by decide +kernel) (by decide +kernel)
set_option maxRecDepth 20000 in
theorem gX4_cap_X4_isPupil : GoodIn wsX4_cap (wsV RX4 79 RX4 yX4_isPupil wsX4_isPupil) := goodIn_app (goodIn_of _ (by decide +kernel)) ggX4_cap_X4_isPupil
set_option maxRecDepth 20000 in
theorem ggX4_cap_X4_leaveTrace : GoodIn wsX4_cap wsX4_leaveTrace := goodIn_r _ [10, 11, 12, 13, 14, 15, 16, 17, 18] (by decide +kernel) (by decide +kernel)
set_option maxRecDepth 20000 in
theorem gX4_cap_X4_leaveTrace : GoodIn wsX4_cap (wsV RX4 215 RX4 yX4_leaveTrace wsX4_leaveTrace) := goodIn_app (goodIn_of _ (by decide +kernel)) ggX4_cap_X4_leaveTrace
theorem dX4_cap_0 : decode cX4_cap 0 = .ok (.aload_n 0, 1) := by decide +kernel
theorem dX4_cap_1 : decode cX4_cap 1 = .ok (.iload_n 1, 1) := by decide +kernel
theorem dX4_cap_2 : decode cX4_cap 2 = .ok (.invokevirtual 79, 3) := by decide +kernel
theorem dX4_cap_5 : decode cX4_cap 5 = .ok (.ifCond .ne 5, 3) := by decide +kernel
theorem dX4_cap_8 : decode cX4_cap 8 = .ok (.iconst (-1), 1) := by decide +kernel
theorem dX4_cap_9 : decode cX4_cap 9 = .ok (.ireturn, 1) := by decide +kernel
theorem dX4_cap_10 : decode cX4_cap 10 = .ok (.aload_n 0, 1) := by decide +kernel
theorem dX4_cap_11 : decode cX4_cap 11 = .ok (.getfield 12, 3) := by decide +kernel
theorem dX4_cap_14 : decode cX4_cap 14 = .ok (.getfield 82, 3) := by decide +kernel
theorem dX4_cap_17 : decode cX4_cap 17 = .ok (.iload_n 1, 1) := by decide +kernel
theorem dX4_cap_18 : decode cX4_cap 18 = .ok (.iaload, 1) := by decide +kernel
theorem dX4_cap_19 : decode cX4_cap 19 = .ok (.iconst 2, 1) := by decide +kernel
theorem dX4_cap_20 : decode cX4_cap 20 = .ok (.if_icmp .ne 11, 3) := by decide +kernel
theorem dX4_cap_23 : decode cX4_cap 23 = .ok (.aload_n 0, 1) := by decide +kernel
theorem dX4_cap_24 : decode cX4_cap 24 = .ok (.iconst 5, 1) := by decide +kernel
theorem dX4_cap_25 : decode cX4_cap 25 = .ok (.invokevirtual 215, 3) := by decide +kernel
theorem dX4_cap_28 : decode cX4_cap 28 = .ok (.bipush 70, 2) := by decide +kernel
theorem dX4_cap_30 : decode cX4_cap 30 = .ok (.ireturn, 1) := by decide +kernel
theorem dX4_cap_31 : decode cX4_cap 31 = .ok (.aload_n 0, 1) := by decide +kernel
theorem dX4_cap_32 : decode cX4_cap 32 = .ok (.iconst 4, 1) := by decide +kernel
theorem dX4_cap_33 : decode cX4_cap 33 = .ok (.invokevirtual 215, 3) := by decide +kernel
theorem dX4_cap_36 : decode cX4_cap 36 = .ok (.iload_n 1, 1) := by decide +kernel
theorem dX4_cap_37 : decode cX4_cap 37 = .ok (.ireturn, 1) := by decide +kernel
set_option maxRecDepth 20000 in
theorem ggX4_as_X4_isPupil : GoodIn wsX4_as wsX4_isPupil := goodIn_r _ [7, 2, 12, 13, 14, 15, 16, 17, 18, 19, 20, 21, 22, 23, 24, 25, 26, 27, 28] (by decide +kernel) (by decide +kernel)
set_option maxRecDepth 20000 in
theorem gX4_as_X4_isPupil : GoodIn wsX4_as (wsV RX4 79 RX4 yX4_isPupil wsX4_isPupil) := goodIn_app (goodIn_of _ (by decide +kernel)) ggX4_as_X4_isPupil
set_option maxRecDepth 20000 in
theorem ggX4_as_X4_fail : GoodIn wsX4_as wsX4_fail := goodIn_r _ [11, 1, 12, 13, 14, 15, 16, 17, 18] (by decide +kernel) (by decide +kernel)
set_option maxRecDepth 20000 in
theorem gX4_as_X4_fail : GoodIn wsX4_as (wsV RX4 57 RX4 yX4_fail wsX4_fail) := goodIn_app (goodIn_of _ (by decide +kernel)) ggX4_as_X4_fail
theorem dX4_as_0 : decode cX4_as 0 = .ok (.aload_n 0, 1) := by decide +kernel
theorem dX4_as_1 : decode cX4_as 1 = .ok (.iconst 0, 1) := by decide +kernel
theorem dX4_as_2 : decode cX4_as 2 = .ok (.putfield 42, 3) := by decide +kernel
theorem dX4_as_5 : decode cX4_as 5 = .ok (.aload_n 0, 1) := by decide +kernel
theorem dX4_as_6 : decode cX4_as 6 = .ok (.iload_n 1, 1) := by decide +kernel
theorem dX4_as_7 : decode cX4_as 7 = .ok (.invokevirtual 79, 3) := by decide +kernel
theorem dX4_as_10 : decode cX4_as 10 = .ok (.ifCond .ne 5, 3) := by decide +kernel
theorem dX4_as_13 : decode cX4_as 13 = .ok (.iconst (-1), 1) := by decide +kernel
theorem dX4_as_14 : decode cX4_as 14 = .ok (.ireturn, 1) := by decide +kernel
theorem dX4_as_15 : decode cX4_as 15 = .ok (.iload_n 2, 1) := by decide +kernel
theorem dX4_as_16 : decode cX4_as 16 = .ok (.ifCond .lt 8, 3) := by decide +kernel
theorem dX4_as_19 : decode cX4_as 19 = .ok (.iload_n 2, 1) := by decide +kernel
theorem dX4_as_20 : decode cX4_as 20 = .ok (.iconst 3, 1) := by decide +kernel
theorem dX4_as_21 : decode cX4_as 21 = .ok (.if_icmp .lt 6, 3) := by decide +kernel
theorem dX4_as_24 : decode cX4_as 24 = .ok (.bipush (-2), 2) := by decide +kernel
theorem dX4_as_26 : decode cX4_as 26 = .ok (.ireturn, 1) := by decide +kernel
theorem dX4_as_27 : decode cX4_as 27 = .ok (.aload_n 0, 1) := by decide +kernel
theorem dX4_as_28 : decode cX4_as 28 = .ok (.getfield 12, 3) := by decide +kernel
theorem dX4_as_31 : decode cX4_as 31 = .ok (.getfield 82, 3) := by decide +kernel
theorem dX4_as_34 : decode cX4_as 34 = .ok (.iload_n 1, 1) := by decide +kernel
theorem dX4_as_35 : decode cX4_as 35 = .ok (.iaload, 1) := by decide +kernel
theorem dX4_as_36 : decode cX4_as 36 = .ok (.iload_n 2, 1) := by decide +kernel
theorem dX4_as_37 : decode cX4_as 37 = .ok (.if_icmp .lt 7, 3) := by decide +kernel
theorem dX4_as_40 : decode cX4_as 40 = .ok (.iconst 1, 1) := by decide +kernel
theorem dX4_as_41 : decode cX4_as 41 = .ok (.goto 8, 3) := by decide +kernel
theorem dX4_as_44 : decode cX4_as 44 = .ok (.aload_n 0, 1) := by decide +kernel
theorem dX4_as_45 : decode cX4_as 45 = .ok (.iconst 2, 1) := by decide +kernel
theorem dX4_as_46 : decode cX4_as 46 = .ok (.invokevirtual 57, 3) := by decide +kernel
theorem dX4_as_49 : decode cX4_as 49 = .ok (.ireturn, 1) := by decide +kernel
theorem dX4_trace_0 : decode cX4_trace 0 = .ok (.aload_n 0, 1) := by decide +kernel
theorem dX4_trace_1 : decode cX4_trace 1 = .ok (.getfield 218, 3) := by decide +kernel
theorem dX4_trace_4 : decode cX4_trace 4 = .ok (.ireturn, 1) := by decide +kernel
theorem dX4_fault_0 : decode cX4_fault 0 = .ok (.aload_n 0, 1) := by decide +kernel
theorem dX4_fault_1 : decode cX4_fault 1 = .ok (.getfield 42, 3) := by decide +kernel
theorem dX4_fault_4 : decode cX4_fault 4 = .ok (.ireturn, 1) := by decide +kernel
theorem dX4_many_0 : decode cX4_many 0 = .ok (.iload_n 1, 1) := by decide +kernel
theorem dX4_many_1 : decode cX4_many 1 = .ok (.tableswitch 75 0 4 #[35, 43, 51, 59, 67], 35) := by decide +kernel
theorem dX4_many_36 : decode cX4_many 36 = .ok (.aload_n 0, 1) := by decide +kernel
theorem dX4_many_37 : decode cX4_many 37 = .ok (.getfield 12, 3) := by decide +kernel
theorem dX4_many_40 : decode cX4_many 40 = .ok (.getfield 76, 3) := by decide +kernel
theorem dX4_many_43 : decode cX4_many 43 = .ok (.ireturn, 1) := by decide +kernel
theorem dX4_many_44 : decode cX4_many 44 = .ok (.aload_n 0, 1) := by decide +kernel
theorem dX4_many_45 : decode cX4_many 45 = .ok (.getfield 12, 3) := by decide +kernel
theorem dX4_many_48 : decode cX4_many 48 = .ok (.getfield 152, 3) := by decide +kernel
theorem dX4_many_51 : decode cX4_many 51 = .ok (.ireturn, 1) := by decide +kernel
theorem dX4_many_52 : decode cX4_many 52 = .ok (.aload_n 0, 1) := by decide +kernel
theorem dX4_many_53 : decode cX4_many 53 = .ok (.getfield 12, 3) := by decide +kernel
theorem dX4_many_56 : decode cX4_many 56 = .ok (.getfield 108, 3) := by decide +kernel
theorem dX4_many_59 : decode cX4_many 59 = .ok (.ireturn, 1) := by decide +kernel
theorem dX4_many_60 : decode cX4_many 60 = .ok (.aload_n 0, 1) := by decide +kernel
theorem dX4_many_61 : decode cX4_many 61 = .ok (.getfield 12, 3) := by decide +kernel
theorem dX4_many_64 : decode cX4_many 64 = .ok (.getfield 111, 3) := by decide +kernel
theorem dX4_many_67 : decode cX4_many 67 = .ok (.ireturn, 1) := by decide +kernel
theorem dX4_many_68 : decode cX4_many 68 = .ok (.aload_n 0, 1) := by decide +kernel
theorem dX4_many_69 : decode cX4_many 69 = .ok (.getfield 31, 3) := by decide +kernel
theorem dX4_many_72 : decode cX4_many 72 = .ok (.getfield 155, 3) := by decide +kernel
theorem dX4_many_75 : decode cX4_many 75 = .ok (.ireturn, 1) := by decide +kernel
theorem dX4_many_76 : decode cX4_many 76 = .ok (.bipush (-2), 2) := by decide +kernel
theorem dX4_many_78 : decode cX4_many 78 = .ok (.ireturn, 1) := by decide +kernel
theorem dX4_hasSee_0 : decode cX4_hasSee 0 = .ok (.aload_n 0, 1) := by decide +kernel
theorem dX4_hasSee_1 : decode cX4_hasSee 1 = .ok (.getfield 12, 3) := by decide +kernel
theorem dX4_hasSee_4 : decode cX4_hasSee 4 = .ok (.getfield 76, 3) := by decide +kernel
theorem dX4_hasSee_7 : decode cX4_hasSee 7 = .ok (.ifCond .le 7, 3) := by decide +kernel
theorem dX4_hasSee_10 : decode cX4_hasSee 10 = .ok (.iconst 1, 1) := by decide +kernel
theorem dX4_hasSee_11 : decode cX4_hasSee 11 = .ok (.goto 4, 3) := by decide +kernel
theorem dX4_hasSee_14 : decode cX4_hasSee 14 = .ok (.iconst 0, 1) := by decide +kernel
theorem dX4_hasSee_15 : decode cX4_hasSee 15 = .ok (.ireturn, 1) := by decide +kernel
theorem dX4_isPupil_0 : decode cX4_isPupil 0 = .ok (.iload_n 1, 1) := by decide +kernel
theorem dX4_isPupil_1 : decode cX4_isPupil 1 = .ok (.ifCond .lt 18, 3) := by decide +kernel
theorem dX4_isPupil_4 : decode cX4_isPupil 4 = .ok (.iload_n 1, 1) := by decide +kernel
theorem dX4_isPupil_5 : decode cX4_isPupil 5 = .ok (.aload_n 0, 1) := by decide +kernel
theorem dX4_isPupil_6 : decode cX4_isPupil 6 = .ok (.getfield 12, 3) := by decide +kernel
theorem dX4_isPupil_9 : decode cX4_isPupil 9 = .ok (.getfield 76, 3) := by decide +kernel
theorem dX4_isPupil_12 : decode cX4_isPupil 12 = .ok (.if_icmp .ge 7, 3) := by decide +kernel
theorem dX4_isPupil_15 : decode cX4_isPupil 15 = .ok (.iconst 1, 1) := by decide +kernel
theorem dX4_isPupil_16 : decode cX4_isPupil 16 = .ok (.goto 4, 3) := by decide +kernel
theorem dX4_isPupil_19 : decode cX4_isPupil 19 = .ok (.iconst 0, 1) := by decide +kernel
theorem dX4_isPupil_20 : decode cX4_isPupil 20 = .ok (.ireturn, 1) := by decide +kernel
theorem dX4_isDay_0 : decode cX4_isDay 0 = .ok (.iload_n 1, 1) := by decide +kernel
theorem dX4_isDay_1 : decode cX4_isDay 1 = .ok (.ifCond .lt 18, 3) := by decide +kernel
theorem dX4_isDay_4 : decode cX4_isDay 4 = .ok (.iload_n 1, 1) := by decide +kernel
theorem dX4_isDay_5 : decode cX4_isDay 5 = .ok (.aload_n 0, 1) := by decide +kernel
theorem dX4_isDay_6 : decode cX4_isDay 6 = .ok (.getfield 12, 3) := by decide +kernel
theorem dX4_isDay_9 : decode cX4_isDay 9 = .ok (.getfield 152, 3) := by decide +kernel
theorem dX4_isDay_12 : decode cX4_isDay 12 = .ok (.if_icmp .ge 7, 3) := by decide +kernel
theorem dX4_isDay_15 : decode cX4_isDay 15 = .ok (.iconst 1, 1) := by decide +kernel
theorem dX4_isDay_16 : decode cX4_isDay 16 = .ok (.goto 4, 3) := by decide +kernel
theorem dX4_isDay_19 : decode cX4_isDay 19 = .ok (.iconst 0, 1) := by decide +kernel
theorem dX4_isDay_20 : decode cX4_isDay 20 = .ok (.ireturn, 1) := by decide +kernel
theorem dX4_isLevel_0 : decode cX4_isLevel 0 = .ok (.iload_n 0, 1) := by decide +kernel
theorem dX4_isLevel_1 : decode cX4_isLevel 1 = .ok (.ifCond .lt 13, 3) := by decide +kernel
theorem dX4_isLevel_4 : decode cX4_isLevel 4 = .ok (.iload_n 0, 1) := by decide +kernel
theorem dX4_isLevel_5 : decode cX4_isLevel 5 = .ok (.bipush 10, 2) := by decide +kernel
theorem dX4_isLevel_7 : decode cX4_isLevel 7 = .ok (.if_icmp .ge 7, 3) := by decide +kernel
theorem dX4_isLevel_10 : decode cX4_isLevel 10 = .ok (.iconst 1, 1) := by decide +kernel
theorem dX4_isLevel_11 : decode cX4_isLevel 11 = .ok (.goto 4, 3) := by decide +kernel
theorem dX4_isLevel_14 : decode cX4_isLevel 14 = .ok (.iconst 0, 1) := by decide +kernel
theorem dX4_isLevel_15 : decode cX4_isLevel 15 = .ok (.ireturn, 1) := by decide +kernel
theorem dX4_isSheet_0 : decode cX4_isSheet 0 = .ok (.iload_n 0, 1) := by decide +kernel
theorem dX4_isSheet_1 : decode cX4_isSheet 1 = .ok (.ifCond .lt 12, 3) := by decide +kernel
theorem dX4_isSheet_4 : decode cX4_isSheet 4 = .ok (.iload_n 0, 1) := by decide +kernel
theorem dX4_isSheet_5 : decode cX4_isSheet 5 = .ok (.iconst 4, 1) := by decide +kernel
theorem dX4_isSheet_6 : decode cX4_isSheet 6 = .ok (.if_icmp .ge 7, 3) := by decide +kernel
theorem dX4_isSheet_9 : decode cX4_isSheet 9 = .ok (.iconst 1, 1) := by decide +kernel
theorem dX4_isSheet_10 : decode cX4_isSheet 10 = .ok (.goto 4, 3) := by decide +kernel
theorem dX4_isSheet_13 : decode cX4_isSheet 13 = .ok (.iconst 0, 1) := by decide +kernel
theorem dX4_isSheet_14 : decode cX4_isSheet 14 = .ok (.ireturn, 1) := by decide +kernel
theorem dX4_isLane_0 : decode cX4_isLane 0 = .ok (.iload_n 0, 1) := by decide +kernel
theorem dX4_isLane_1 : decode cX4_isLane 1 = .ok (.ifCond .lt 12, 3) := by decide +kernel
theorem dX4_isLane_4 : decode cX4_isLane 4 = .ok (.iload_n 0, 1) := by decide +kernel
theorem dX4_isLane_5 : decode cX4_isLane 5 = .ok (.iconst 3, 1) := by decide +kernel
theorem dX4_isLane_6 : decode cX4_isLane 6 = .ok (.if_icmp .ge 7, 3) := by decide +kernel
theorem dX4_isLane_9 : decode cX4_isLane 9 = .ok (.iconst 1, 1) := by decide +kernel
theorem dX4_isLane_10 : decode cX4_isLane 10 = .ok (.goto 4, 3) := by decide +kernel
theorem dX4_isLane_13 : decode cX4_isLane 13 = .ok (.iconst 0, 1) := by decide +kernel
theorem dX4_isLane_14 : decode cX4_isLane 14 = .ok (.ireturn, 1) := by decide +kernel
theorem dX4_isOfPlan_0 : decode cX4_isOfPlan 0 = .ok (.iload_n 0, 1) := by decide +kernel
theorem dX4_isOfPlan_1 : decode cX4_isOfPlan 1 = .ok (.ifCond .lt 8, 3) := by decide +kernel
theorem dX4_isOfPlan_4 : decode cX4_isOfPlan 4 = .ok (.iload_n 0, 1) := by decide +kernel
theorem dX4_isOfPlan_5 : decode cX4_isOfPlan 5 = .ok (.iconst 3, 1) := by decide +kernel
theorem dX4_isOfPlan_6 : decode cX4_isOfPlan 6 = .ok (.if_icmp .le 27, 3) := by decide +kernel
theorem dX4_isOfPlan_9 : decode cX4_isOfPlan 9 = .ok (.iload_n 0, 1) := by decide +kernel
theorem dX4_isOfPlan_10 : decode cX4_isOfPlan 10 = .ok (.bipush 10, 2) := by decide +kernel
theorem dX4_isOfPlan_12 : decode cX4_isOfPlan 12 = .ok (.if_icmp .lt 9, 3) := by decide +kernel
theorem dX4_isOfPlan_15 : decode cX4_isOfPlan 15 = .ok (.iload_n 0, 1) := by decide +kernel
theorem dX4_isOfPlan_16 : decode cX4_isOfPlan 16 = .ok (.bipush 14, 2) := by decide +kernel
theorem dX4_isOfPlan_18 : decode cX4_isOfPlan 18 = .ok (.if_icmp .lt 15, 3) := by decide +kernel
theorem dX4_isOfPlan_21 : decode cX4_isOfPlan 21 = .ok (.iload_n 0, 1) := by decide +kernel
theorem dX4_isOfPlan_22 : decode cX4_isOfPlan 22 = .ok (.bipush 20, 2) := by decide +kernel
theorem dX4_isOfPlan_24 : decode cX4_isOfPlan 24 = .ok (.if_icmp .lt 13, 3) := by decide +kernel
theorem dX4_isOfPlan_27 : decode cX4_isOfPlan 27 = .ok (.iload_n 0, 1) := by decide +kernel
theorem dX4_isOfPlan_28 : decode cX4_isOfPlan 28 = .ok (.bipush 25, 2) := by decide +kernel
theorem dX4_isOfPlan_30 : decode cX4_isOfPlan 30 = .ok (.if_icmp .ge 7, 3) := by decide +kernel
theorem dX4_isOfPlan_33 : decode cX4_isOfPlan 33 = .ok (.iconst 1, 1) := by decide +kernel
theorem dX4_isOfPlan_34 : decode cX4_isOfPlan 34 = .ok (.goto 4, 3) := by decide +kernel
theorem dX4_isOfPlan_37 : decode cX4_isOfPlan 37 = .ok (.iconst 0, 1) := by decide +kernel
theorem dX4_isOfPlan_38 : decode cX4_isOfPlan 38 = .ok (.ireturn, 1) := by decide +kernel
theorem dX4_fail_0 : decode cX4_fail 0 = .ok (.aload_n 0, 1) := by decide +kernel
theorem dX4_fail_1 : decode cX4_fail 1 = .ok (.iload_n 1, 1) := by decide +kernel
theorem dX4_fail_2 : decode cX4_fail 2 = .ok (.putfield 42, 3) := by decide +kernel
theorem dX4_fail_5 : decode cX4_fail 5 = .ok (.bipush (-10), 2) := by decide +kernel
theorem dX4_fail_7 : decode cX4_fail 7 = .ok (.iload_n 1, 1) := by decide +kernel
theorem dX4_fail_8 : decode cX4_fail 8 = .ok (.isub, 1) := by decide +kernel
theorem dX4_fail_9 : decode cX4_fail 9 = .ok (.ireturn, 1) := by decide +kernel
set_option maxRecDepth 20000 in
theorem ggX4_firstFaultOfText_X0_begin : GoodIn wsX4_firstFaultOfText wsX0_begin := goodIn_r _ [7, 8, 9, 49, 50, 51, 52, 53, 54, 55, 56, 57, 58, 59, 60] (by decide +kernel) (by decide +kernel)
set_option maxRecDepth 20000 in
theorem gX4_firstFaultOfText_X0_begin : GoodIn wsX4_firstFaultOfText (wsV RX4 221 RX0 yX0_begin wsX0_begin) := goodIn_app (goodIn_of _ (by decide +kernel)) ggX4_firstFaultOfText_X0_begin
set_option maxRecDepth 20000 in
theorem ggX4_firstFaultOfText_X3_read : GoodIn wsX4_firstFaultOfText wsX3_read := goodIn_r _ [14, 15, 61, 62, 63] (by decide +kernel) (by decide +kernel)
set_option maxRecDepth 20000 in
theorem gX4_firstFaultOfText_X3_read : GoodIn wsX4_firstFaultOfText (wsV RX4 192 RX3 yX3_read wsX3_read) := goodIn_app (goodIn_of _ (by decide +kernel)) ggX4_firstFaultOfText_X3_read
set_option maxRecDepth 20000 in
theorem ggX4_firstFaultOfText_X0_takes : GoodIn wsX4_firstFaultOfText wsX0_takes := goodIn_r _ [19, 8, 9, 20, 21, 22, 6, 23, 24, 25, 26, 27, 28, 29, 30, 31, 32, 33, 34, 35, 36, 37, 49, 50, 51, 52, 53, 54, 55, 56, 57, 58, 59, 60] (by decide +kernel) (by decide +kernel)
set_option maxRecDepth 20000 in
theorem gX4_firstFaultOfText_X0_takes : GoodIn wsX4_firstFaultOfText (wsV RX4 224 RX0 yX0_takes wsX0_takes) := goodIn_app (goodIn_of _ (by decide +kernel)) ggX4_firstFaultOfText_X0_takes
set_option maxRecDepth 20000 in
theorem ggX4_firstFaultOfText_X0_mayEnd : GoodIn wsX4_firstFaultOfText wsX0_mayEnd := goodIn_r _ [41, 8, 49, 50] (by decide +kernel) (by decide +kernel)
set_option maxRecDepth 20000 in
theorem gX4_firstFaultOfText_X0_mayEnd : GoodIn wsX4_firstFaultOfText (wsV RX4 227 RX0 yX0_mayEnd wsX0_mayEnd) := goodIn_app (goodIn_of _ (by decide +kernel)) ggX4_firstFaultOfText_X0_mayEnd
theorem dX4_firstFaultOfText_0 : decode cX4_firstFaultOfText 0 = .ok (.aload_n 0, 1) := by decide +kernel
theorem dX4_firstFaultOfText_1 : decode cX4_firstFaultOfText 1 = .ok (.getfield 24, 3) := by decide +kernel
theorem dX4_firstFaultOfText_4 : decode cX4_firstFaultOfText 4 = .ok (.invokevirtual 221, 3) := by decide +kernel
theorem dX4_firstFaultOfText_7 : decode cX4_firstFaultOfText 7 = .ok (.iconst 0, 1) := by decide +kernel
theorem dX4_firstFaultOfText_8 : decode cX4_firstFaultOfText 8 = .ok (.istore 4, 2) := by decide +kernel
theorem dX4_firstFaultOfText_10 : decode cX4_firstFaultOfText 10 = .ok (.iload 4, 2) := by decide +kernel
theorem dX4_firstFaultOfText_12 : decode cX4_firstFaultOfText 12 = .ok (.iload_n 3, 1) := by decide +kernel
theorem dX4_firstFaultOfText_13 : decode cX4_firstFaultOfText 13 = .ok (.if_icmp .ge 34, 3) := by decide +kernel
theorem dX4_firstFaultOfText_16 : decode cX4_firstFaultOfText 16 = .ok (.aload_n 0, 1) := by decide +kernel
theorem dX4_firstFaultOfText_17 : decode cX4_firstFaultOfText 17 = .ok (.getfield 24, 3) := by decide +kernel
theorem dX4_firstFaultOfText_20 : decode cX4_firstFaultOfText 20 = .ok (.aload_n 0, 1) := by decide +kernel
theorem dX4_firstFaultOfText_21 : decode cX4_firstFaultOfText 21 = .ok (.getfield 38, 3) := by decide +kernel
theorem dX4_firstFaultOfText_24 : decode cX4_firstFaultOfText 24 = .ok (.iload_n 1, 1) := by decide +kernel
theorem dX4_firstFaultOfText_25 : decode cX4_firstFaultOfText 25 = .ok (.iload_n 2, 1) := by decide +kernel
theorem dX4_firstFaultOfText_26 : decode cX4_firstFaultOfText 26 = .ok (.iload 4, 2) := by decide +kernel
theorem dX4_firstFaultOfText_28 : decode cX4_firstFaultOfText 28 = .ok (.iadd, 1) := by decide +kernel
theorem dX4_firstFaultOfText_29 : decode cX4_firstFaultOfText 29 = .ok (.invokevirtual 192, 3) := by decide +kernel
theorem dX4_firstFaultOfText_32 : decode cX4_firstFaultOfText 32 = .ok (.invokevirtual 224, 3) := by decide +kernel
theorem dX4_firstFaultOfText_35 : decode cX4_firstFaultOfText 35 = .ok (.ifCond .ne 6, 3) := by decide +kernel
theorem dX4_firstFaultOfText_38 : decode cX4_firstFaultOfText 38 = .ok (.iload 4, 2) := by decide +kernel
theorem dX4_firstFaultOfText_40 : decode cX4_firstFaultOfText 40 = .ok (.ireturn, 1) := by decide +kernel
theorem dX4_firstFaultOfText_41 : decode cX4_firstFaultOfText 41 = .ok (.iinc 4 1, 3) := by decide +kernel
theorem dX4_firstFaultOfText_44 : decode cX4_firstFaultOfText 44 = .ok (.goto (-34), 3) := by decide +kernel
theorem dX4_firstFaultOfText_47 : decode cX4_firstFaultOfText 47 = .ok (.aload_n 0, 1) := by decide +kernel
theorem dX4_firstFaultOfText_48 : decode cX4_firstFaultOfText 48 = .ok (.getfield 24, 3) := by decide +kernel
theorem dX4_firstFaultOfText_51 : decode cX4_firstFaultOfText 51 = .ok (.invokevirtual 227, 3) := by decide +kernel
theorem dX4_firstFaultOfText_54 : decode cX4_firstFaultOfText 54 = .ok (.ifCond .eq 8, 3) := by decide +kernel
theorem dX4_firstFaultOfText_57 : decode cX4_firstFaultOfText 57 = .ok (.bipush (-9), 2) := by decide +kernel
theorem dX4_firstFaultOfText_59 : decode cX4_firstFaultOfText 59 = .ok (.goto 4, 3) := by decide +kernel
theorem dX4_firstFaultOfText_62 : decode cX4_firstFaultOfText 62 = .ok (.iload_n 3, 1) := by decide +kernel
theorem dX4_firstFaultOfText_63 : decode cX4_firstFaultOfText 63 = .ok (.ireturn, 1) := by decide +kernel
set_option maxRecDepth 20000 in
theorem ggX4_tryPlan_X2_become : GoodIn wsX4_tryPlan wsX2_become := goodIn_r _ [8, 9, 10, 11, 12, 13, 14, 15, 16, 17, 18, 19, 20, 21, 22, 23, 24, 25, 74, 75, 76, 77, 78, 79, 80, 81, 82, 83] (by decide +kernel) (by decide +kernel)
set_option maxRecDepth 20000 in
theorem gX4_tryPlan_X2_become : GoodIn wsX4_tryPlan (wsV RX4 68 RX2 yX2_become wsX2_become) := goodIn_app (goodIn_of _ (by decide +kernel)) ggX4_tryPlan_X2_become
set_option maxRecDepth 20000 in
theorem ggX4_tryPlan_X3_read : GoodIn wsX4_tryPlan wsX3_read := goodIn_r _ [30, 31, 84, 85, 86] (by decide +kernel) (by decide +kernel)
set_option maxRecDepth 20000 in
theorem gX4_tryPlan_X3_read : GoodIn wsX4_tryPlan (wsV RX4 192 RX3 yX3_read wsX3_read) := goodIn_app (goodIn_of _ (by decide +kernel)) ggX4_tryPlan_X3_read
set_option maxRecDepth 20000 in
theorem ggX4_tryPlan_X2_allDays : GoodIn wsX4_tryPlan wsX2_allDays := goodIn_r _ [35, 9, 74, 75, 76, 77, 78, 79, 80, 81, 82, 83] (by decide +kernel) (by decide +kernel)
set_option maxRecDepth 20000 in
theorem gX4_tryPlan_X2_allDays : GoodIn wsX4_tryPlan (wsV RX4 138 RX2 yX2_allDays wsX2_allDays) := goodIn_app (goodIn_of _ (by decide +kernel)) ggX4_tryPlan_X2_allDays
set_option maxRecDepth 20000 in
theorem ggX4_tryPlan_X2_settle : GoodIn wsX4_tryPlan wsX2_settle := goodIn_r _ [39, 9, 40, 41, 42, 43, 7, 44, 12, 10, 45, 46, 47, 48, 21, 49, 50, 51, 52, 53, 54, 55, 19, 13, 11, 56, 57, 58, 59, 60, 61, 62, 63, 64, 65, 66, 74, 75, 76, 77, 78, 79, 80, 81, 82, 83] (by decide +kernel) (by decide +kernel)
set_option maxRecDepth 20000 in
theorem gX4_tryPlan_X2_settle : GoodIn wsX4_tryPlan (wsV RX4 121 RX2 yX2_settle wsX2_settle) := goodIn_app (goodIn_of _ (by decide +kernel)) ggX4_tryPlan_X2_settle
theorem dX4_tryPlan_0 : decode cX4_tryPlan 0 = .ok (.aload_n 0, 1) := by decide +kernel
theorem dX4_tryPlan_1 : decode cX4_tryPlan 1 = .ok (.getfield 18, 3) := by decide +kernel
theorem dX4_tryPlan_4 : decode cX4_tryPlan 4 = .ok (.aload_n 0, 1) := by decide +kernel
theorem dX4_tryPlan_5 : decode cX4_tryPlan 5 = .ok (.getfield 12, 3) := by decide +kernel
theorem dX4_tryPlan_8 : decode cX4_tryPlan 8 = .ok (.invokevirtual 68, 3) := by decide +kernel
theorem dX4_tryPlan_11 : decode cX4_tryPlan 11 = .ok (.iconst 0, 1) := by decide +kernel
theorem dX4_tryPlan_12 : decode cX4_tryPlan 12 = .ok (.istore_n 3, 1) := by decide +kernel
theorem dX4_tryPlan_13 : decode cX4_tryPlan 13 = .ok (.iload_n 3, 1) := by decide +kernel
theorem dX4_tryPlan_14 : decode cX4_tryPlan 14 = .ok (.aload_n 0, 1) := by decide +kernel
theorem dX4_tryPlan_15 : decode cX4_tryPlan 15 = .ok (.getfield 12, 3) := by decide +kernel
theorem dX4_tryPlan_18 : decode cX4_tryPlan 18 = .ok (.getfield 76, 3) := by decide +kernel
theorem dX4_tryPlan_21 : decode cX4_tryPlan 21 = .ok (.if_icmp .ge 52, 3) := by decide +kernel
theorem dX4_tryPlan_24 : decode cX4_tryPlan 24 = .ok (.aload_n 0, 1) := by decide +kernel
theorem dX4_tryPlan_25 : decode cX4_tryPlan 25 = .ok (.getfield 38, 3) := by decide +kernel
theorem dX4_tryPlan_28 : decode cX4_tryPlan 28 = .ok (.iload_n 1, 1) := by decide +kernel
theorem dX4_tryPlan_29 : decode cX4_tryPlan 29 = .ok (.iload_n 2, 1) := by decide +kernel
theorem dX4_tryPlan_30 : decode cX4_tryPlan 30 = .ok (.iload_n 3, 1) := by decide +kernel
theorem dX4_tryPlan_31 : decode cX4_tryPlan 31 = .ok (.iadd, 1) := by decide +kernel
theorem dX4_tryPlan_32 : decode cX4_tryPlan 32 = .ok (.invokevirtual 192, 3) := by decide +kernel
theorem dX4_tryPlan_35 : decode cX4_tryPlan 35 = .ok (.istore 4, 2) := by decide +kernel
theorem dX4_tryPlan_37 : decode cX4_tryPlan 37 = .ok (.iload 4, 2) := by decide +kernel
theorem dX4_tryPlan_39 : decode cX4_tryPlan 39 = .ok (.ifCond .lt 15, 3) := by decide +kernel
theorem dX4_tryPlan_42 : decode cX4_tryPlan 42 = .ok (.iload 4, 2) := by decide +kernel
theorem dX4_tryPlan_44 : decode cX4_tryPlan 44 = .ok (.aload_n 0, 1) := by decide +kernel
theorem dX4_tryPlan_45 : decode cX4_tryPlan 45 = .ok (.getfield 12, 3) := by decide +kernel
theorem dX4_tryPlan_48 : decode cX4_tryPlan 48 = .ok (.invokevirtual 138, 3) := by decide +kernel
theorem dX4_tryPlan_51 : decode cX4_tryPlan 51 = .ok (.if_icmp .le 5, 3) := by decide +kernel
theorem dX4_tryPlan_54 : decode cX4_tryPlan 54 = .ok (.iconst 0, 1) := by decide +kernel
theorem dX4_tryPlan_55 : decode cX4_tryPlan 55 = .ok (.ireturn, 1) := by decide +kernel
theorem dX4_tryPlan_56 : decode cX4_tryPlan 56 = .ok (.aload_n 0, 1) := by decide +kernel
theorem dX4_tryPlan_57 : decode cX4_tryPlan 57 = .ok (.getfield 18, 3) := by decide +kernel
theorem dX4_tryPlan_60 : decode cX4_tryPlan 60 = .ok (.getfield 146, 3) := by decide +kernel
theorem dX4_tryPlan_63 : decode cX4_tryPlan 63 = .ok (.iload_n 3, 1) := by decide +kernel
theorem dX4_tryPlan_64 : decode cX4_tryPlan 64 = .ok (.iload 4, 2) := by decide +kernel
theorem dX4_tryPlan_66 : decode cX4_tryPlan 66 = .ok (.iastore, 1) := by decide +kernel
theorem dX4_tryPlan_67 : decode cX4_tryPlan 67 = .ok (.iinc 3 1, 3) := by decide +kernel
theorem dX4_tryPlan_70 : decode cX4_tryPlan 70 = .ok (.goto (-57), 3) := by decide +kernel
theorem dX4_tryPlan_73 : decode cX4_tryPlan 73 = .ok (.aload_n 0, 1) := by decide +kernel
theorem dX4_tryPlan_74 : decode cX4_tryPlan 74 = .ok (.getfield 18, 3) := by decide +kernel
theorem dX4_tryPlan_77 : decode cX4_tryPlan 77 = .ok (.invokevirtual 121, 3) := by decide +kernel
theorem dX4_tryPlan_80 : decode cX4_tryPlan 80 = .ok (.iconst 1, 1) := by decide +kernel
theorem dX4_tryPlan_81 : decode cX4_tryPlan 81 = .ok (.ireturn, 1) := by decide +kernel
set_option maxRecDepth 20000 in
theorem ggX4_ofPlanTried_X4_isDay : GoodIn wsX4_ofPlanTried wsX4_isDay := goodIn_r _ [6, 7, 86, 87, 88, 89, 90, 91, 92, 93, 94, 95, 96, 97, 98, 99, 100, 101, 102] (by decide +kernel) (by decide +kernel)
set_option maxRecDepth 20000 in
theorem gX4_ofPlanTried_X4_isDay : GoodIn wsX4_ofPlanTried (wsV RX4 95 RX4 yX4_isDay wsX4_isDay) := goodIn_app (goodIn_of _ (by decide +kernel)) ggX4_ofPlanTried_X4_isDay
set_option maxRecDepth 20000 in
theorem ggX4_ofPlanTried_X4_isPupil : GoodIn wsX4_ofPlanTried wsX4_isPupil := goodIn_r _ [11, 7, 86, 87, 88, 89, 90, 91, 92, 93, 94, 95, 96, 97, 98, 99, 100, 101, 102] (by decide +kernel) (by decide +kernel)
set_option maxRecDepth 20000 in
theorem gX4_ofPlanTried_X4_isPupil : GoodIn wsX4_ofPlanTried (wsV RX4 79 RX4 yX4_isPupil wsX4_isPupil) := goodIn_app (goodIn_of _ (by decide +kernel)) ggX4_ofPlanTried_X4_isPupil
set_option maxRecDepth 20000 in
theorem ggX4_ofPlanTried_X2_hoursBehind : GoodIn wsX4_ofPlanTried wsX2_hoursBehind := goodIn_r _ [16, 17, 18, 19, 15, 20, 21, 22, 23, 24, 25, 26, 27, 28, 29, 30, 93, 94, 95, 96, 97, 98, 99, 100, 101, 102] (by decide +kernel) (by decide +kernel)
set_option maxRecDepth 20000 in
theorem gX4_ofPlanTried_X2_hoursBehind : GoodIn wsX4_ofPlanTried (wsV RX4 233 RX2 yX2_hoursBehind wsX2_hoursBehind) := goodIn_app (goodIn_of _ (by decide +kernel)) ggX4_ofPlanTried_X2_hoursBehind
set_option maxRecDepth 20000 in
theorem ggX4_ofPlanTried_X2_longestStander : GoodIn wsX4_ofPlanTried wsX2_longestStander := goodIn_r _ [34, 35, 36, 37, 13, 14, 15, 16, 17, 18, 19, 20, 21, 22, 23, 24, 25, 26, 27, 28, 29, 30, 93, 94, 95, 96, 97, 98, 99, 100, 101, 102] (by decide +kernel) (by decide +kernel)
set_option maxRecDepth 20000 in
theorem gX4_ofPlanTried_X2_longestStander : GoodIn wsX4_ofPlanTried (wsV RX4 124 RX2 yX2_longestStander wsX2_longestStander) := goodIn_app (goodIn_of _ (by decide +kernel)) ggX4_ofPlanTried_X2_longestStander
set_option maxRecDepth 20000 in
theorem ggX4_ofPlanTried_X2_firstRestless : GoodIn wsX4_ofPlanTried wsX2_firstRestless := goodIn_r _ [41, 35, 36, 42, 43, 44, 15, 45, 46, 47, 48, 49, 50, 51, 52, 53, 54, 55, 56, 57, 58, 59, 18, 19, 20, 60, 61, 62, 63, 64, 65, 66, 67, 68, 69, 70, 71, 72, 73, 74, 75, 76, 77, 21, 22, 23, 24, 25, 26, 27, 28, 29, 30, 37, 13, 14, 16, 17, 93, 94, 95, 96, 97, 98, 99, 100, 101, 102] (by decide +kernel) (by decide +kernel)
set_option maxRecDepth 20000 in
theorem gX4_ofPlanTried_X2_firstRestless : GoodIn wsX4_ofPlanTried (wsV RX4 236 RX2 yX2_firstRestless wsX2_firstRestless) := goodIn_app (goodIn_of _ (by decide +kernel)) ggX4_ofPlanTried_X2_firstRestless
set_option maxRecDepth 20000 in
theorem ggX4_ofPlanTried_X2_hoursOfAll : GoodIn wsX4_ofPlanTried wsX2_hoursOfAll := goodIn_r _ [81, 35, 36, 37, 13, 14, 15, 16, 17, 18, 19, 20, 21, 22, 23, 24, 25, 26, 27, 28, 29, 30, 93, 94, 95, 96, 97, 98, 99, 100, 101, 102] (by decide +kernel) (by decide +kernel)
set_option maxRecDepth 20000 in
theorem gX4_ofPlanTried_X2_hoursOfAll : GoodIn wsX4_ofPlanTried (wsV RX4 239 RX2 yX2_hoursOfAll wsX2_hoursOfAll) := goodIn_app (goodIn_of _ (by decide +kernel)) ggX4_ofPlanTried_X2_hoursOfAll
set_option maxRecDepth 20000 in
theorem ggX4_ofPlanTried_X2_crowdedDays : GoodIn wsX4_ofPlanTried wsX2_crowdedDays := goodIn_r _ [85, 36, 55, 56, 57, 58, 15, 59, 35, 46, 18, 19, 20, 60, 61, 62, 63, 64, 65, 66, 67, 68, 69, 70, 71, 72, 73, 93, 94, 95, 96, 97, 98, 99, 100, 101, 102] (by decide +kernel) (by decide +kernel)
set_option maxRecDepth 20000 in
theorem gX4_ofPlanTried_X2_crowdedDays : GoodIn wsX4_ofPlanTried (wsV RX4 242 RX2 yX2_crowdedDays wsX2_crowdedDays) := goodIn_app (goodIn_of _ (by decide +kernel)) ggX4_ofPlanTried_X2_crowdedDays
theorem dX4_ofPlanTried_0 : decode cX4_ofPlanTried 0 = .ok (.iload_n 1, 1) := by decide +kernel
theorem dX4_ofPlanTried_1 : decode cX4_ofPlanTried 1 = .ok (.bipush 20, 2) := by decide +kernel
theorem dX4_ofPlanTried_3 : decode cX4_ofPlanTried 3 = .ok (.if_icmp .lt 31, 3) := by decide +kernel
theorem dX4_ofPlanTried_6 : decode cX4_ofPlanTried 6 = .ok (.iload_n 1, 1) := by decide +kernel
theorem dX4_ofPlanTried_7 : decode cX4_ofPlanTried 7 = .ok (.bipush 20, 2) := by decide +kernel
theorem dX4_ofPlanTried_9 : decode cX4_ofPlanTried 9 = .ok (.isub, 1) := by decide +kernel
theorem dX4_ofPlanTried_10 : decode cX4_ofPlanTried 10 = .ok (.istore_n 2, 1) := by decide +kernel
theorem dX4_ofPlanTried_11 : decode cX4_ofPlanTried 11 = .ok (.aload_n 0, 1) := by decide +kernel
theorem dX4_ofPlanTried_12 : decode cX4_ofPlanTried 12 = .ok (.iload_n 2, 1) := by decide +kernel
theorem dX4_ofPlanTried_13 : decode cX4_ofPlanTried 13 = .ok (.invokevirtual 95, 3) := by decide +kernel
theorem dX4_ofPlanTried_16 : decode cX4_ofPlanTried 16 = .ok (.ifCond .eq 15, 3) := by decide +kernel
theorem dX4_ofPlanTried_19 : decode cX4_ofPlanTried 19 = .ok (.aload_n 0, 1) := by decide +kernel
theorem dX4_ofPlanTried_20 : decode cX4_ofPlanTried 20 = .ok (.getfield 18, 3) := by decide +kernel
theorem dX4_ofPlanTried_23 : decode cX4_ofPlanTried 23 = .ok (.getfield 230, 3) := by decide +kernel
theorem dX4_ofPlanTried_26 : decode cX4_ofPlanTried 26 = .ok (.iload_n 2, 1) := by decide +kernel
theorem dX4_ofPlanTried_27 : decode cX4_ofPlanTried 27 = .ok (.iaload, 1) := by decide +kernel
theorem dX4_ofPlanTried_28 : decode cX4_ofPlanTried 28 = .ok (.goto 5, 3) := by decide +kernel
theorem dX4_ofPlanTried_31 : decode cX4_ofPlanTried 31 = .ok (.bipush (-9), 2) := by decide +kernel
theorem dX4_ofPlanTried_33 : decode cX4_ofPlanTried 33 = .ok (.ireturn, 1) := by decide +kernel
theorem dX4_ofPlanTried_34 : decode cX4_ofPlanTried 34 = .ok (.iload_n 1, 1) := by decide +kernel
theorem dX4_ofPlanTried_35 : decode cX4_ofPlanTried 35 = .ok (.bipush 10, 2) := by decide +kernel
theorem dX4_ofPlanTried_37 : decode cX4_ofPlanTried 37 = .ok (.if_icmp .lt 37, 3) := by decide +kernel
theorem dX4_ofPlanTried_40 : decode cX4_ofPlanTried 40 = .ok (.iload_n 1, 1) := by decide +kernel
theorem dX4_ofPlanTried_41 : decode cX4_ofPlanTried 41 = .ok (.bipush 10, 2) := by decide +kernel
theorem dX4_ofPlanTried_43 : decode cX4_ofPlanTried 43 = .ok (.isub, 1) := by decide +kernel
theorem dX4_ofPlanTried_44 : decode cX4_ofPlanTried 44 = .ok (.istore_n 2, 1) := by decide +kernel
theorem dX4_ofPlanTried_45 : decode cX4_ofPlanTried 45 = .ok (.aload_n 0, 1) := by decide +kernel
theorem dX4_ofPlanTried_46 : decode cX4_ofPlanTried 46 = .ok (.iload_n 2, 1) := by decide +kernel
theorem dX4_ofPlanTried_47 : decode cX4_ofPlanTried 47 = .ok (.invokevirtual 79, 3) := by decide +kernel
theorem dX4_ofPlanTried_50 : decode cX4_ofPlanTried 50 = .ok (.ifCond .eq 21, 3) := by decide +kernel
theorem dX4_ofPlanTried_53 : decode cX4_ofPlanTried 53 = .ok (.aload_n 0, 1) := by decide +kernel
theorem dX4_ofPlanTried_54 : decode cX4_ofPlanTried 54 = .ok (.getfield 18, 3) := by decide +kernel
theorem dX4_ofPlanTried_57 : decode cX4_ofPlanTried 57 = .ok (.iload_n 2, 1) := by decide +kernel
theorem dX4_ofPlanTried_58 : decode cX4_ofPlanTried 58 = .ok (.aload_n 0, 1) := by decide +kernel
theorem dX4_ofPlanTried_59 : decode cX4_ofPlanTried 59 = .ok (.getfield 18, 3) := by decide +kernel
theorem dX4_ofPlanTried_62 : decode cX4_ofPlanTried 62 = .ok (.getfield 152, 3) := by decide +kernel
theorem dX4_ofPlanTried_65 : decode cX4_ofPlanTried 65 = .ok (.invokevirtual 233, 3) := by decide +kernel
theorem dX4_ofPlanTried_68 : decode cX4_ofPlanTried 68 = .ok (.goto 5, 3) := by decide +kernel
theorem dX4_ofPlanTried_71 : decode cX4_ofPlanTried 71 = .ok (.bipush (-9), 2) := by decide +kernel
theorem dX4_ofPlanTried_73 : decode cX4_ofPlanTried 73 = .ok (.ireturn, 1) := by decide +kernel
theorem dX4_ofPlanTried_74 : decode cX4_ofPlanTried 74 = .ok (.iload_n 1, 1) := by decide +kernel
theorem dX4_ofPlanTried_75 : decode cX4_ofPlanTried 75 = .ok (.tableswitch 49 0 2 #[25, 33, 41], 25) := by decide +kernel
theorem dX4_ofPlanTried_100 : decode cX4_ofPlanTried 100 = .ok (.aload_n 0, 1) := by decide +kernel
theorem dX4_ofPlanTried_101 : decode cX4_ofPlanTried 101 = .ok (.getfield 18, 3) := by decide +kernel
theorem dX4_ofPlanTried_104 : decode cX4_ofPlanTried 104 = .ok (.invokevirtual 124, 3) := by decide +kernel
theorem dX4_ofPlanTried_107 : decode cX4_ofPlanTried 107 = .ok (.ireturn, 1) := by decide +kernel
theorem dX4_ofPlanTried_108 : decode cX4_ofPlanTried 108 = .ok (.aload_n 0, 1) := by decide +kernel
theorem dX4_ofPlanTried_109 : decode cX4_ofPlanTried 109 = .ok (.getfield 18, 3) := by decide +kernel
theorem dX4_ofPlanTried_112 : decode cX4_ofPlanTried 112 = .ok (.invokevirtual 236, 3) := by decide +kernel
theorem dX4_ofPlanTried_115 : decode cX4_ofPlanTried 115 = .ok (.ireturn, 1) := by decide +kernel
theorem dX4_ofPlanTried_116 : decode cX4_ofPlanTried 116 = .ok (.aload_n 0, 1) := by decide +kernel
theorem dX4_ofPlanTried_117 : decode cX4_ofPlanTried 117 = .ok (.getfield 18, 3) := by decide +kernel
theorem dX4_ofPlanTried_120 : decode cX4_ofPlanTried 120 = .ok (.invokevirtual 239, 3) := by decide +kernel
theorem dX4_ofPlanTried_123 : decode cX4_ofPlanTried 123 = .ok (.ireturn, 1) := by decide +kernel
theorem dX4_ofPlanTried_124 : decode cX4_ofPlanTried 124 = .ok (.aload_n 0, 1) := by decide +kernel
theorem dX4_ofPlanTried_125 : decode cX4_ofPlanTried 125 = .ok (.getfield 18, 3) := by decide +kernel
theorem dX4_ofPlanTried_128 : decode cX4_ofPlanTried 128 = .ok (.invokevirtual 242, 3) := by decide +kernel
theorem dX4_ofPlanTried_131 : decode cX4_ofPlanTried 131 = .ok (.ireturn, 1) := by decide +kernel
set_option maxRecDepth 20000 in
theorem ggX4_isBishopAsTried_X2_settle : GoodIn wsX4_isBishopAsTried wsX2_settle := goodIn_r _ [6, 7, 8, 9, 10, 11, 5, 12, 13, 14, 15, 16, 17, 18, 19, 20, 21, 22, 23, 24, 25, 26, 27, 28, 29, 30, 31, 32, 33, 34, 35, 36, 37, 38, 39, 40, 66, 67, 68, 69, 70, 71, 72, 73, 74, 75] (by decide +kernel) (by decide +kernel)
set_option maxRecDepth 20000 in
theorem gX4_isBishopAsTried_X2_settle : GoodIn wsX4_isBishopAsTried (wsV RX4 121 RX2 yX2_settle wsX2_settle) := goodIn_app (goodIn_of _ (by decide +kernel)) ggX4_isBishopAsTried_X2_settle
set_option maxRecDepth 20000 in
theorem ggX4_isBishopAsTried_X2_longestStander : GoodIn wsX4_isBishopAsTried wsX2_longestStander := goodIn_r _ [44, 14, 7, 45, 46, 47, 5, 48, 8, 20, 21, 22, 49, 50, 51, 52, 53, 54, 55, 56, 57, 58, 66, 67, 68, 69, 70, 71, 72, 73, 74, 75] (by decide +kernel) (by decide +kernel)
set_option maxRecDepth 20000 in
theorem gX4_isBishopAsTried_X2_longestStander : GoodIn wsX4_isBishopAsTried (wsV RX4 124 RX2 yX2_longestStander wsX2_longestStander) := goodIn_app (goodIn_of _ (by decide +kernel)) ggX4_isBishopAsTried_X2_longestStander
theorem dX4_isBishopAsTried_0 : decode cX4_isBishopAsTried 0 = .ok (.aload_n 0, 1) := by decide +kernel
theorem dX4_isBishopAsTried_1 : decode cX4_isBishopAsTried 1 = .ok (.getfield 18, 3) := by decide +kernel
theorem dX4_isBishopAsTried_4 : decode cX4_isBishopAsTried 4 = .ok (.invokevirtual 121, 3) := by decide +kernel
theorem dX4_isBishopAsTried_7 : decode cX4_isBishopAsTried 7 = .ok (.aload_n 0, 1) := by decide +kernel
theorem dX4_isBishopAsTried_8 : decode cX4_isBishopAsTried 8 = .ok (.getfield 18, 3) := by decide +kernel
theorem dX4_isBishopAsTried_11 : decode cX4_isBishopAsTried 11 = .ok (.invokevirtual 124, 3) := by decide +kernel
theorem dX4_isBishopAsTried_14 : decode cX4_isBishopAsTried 14 = .ok (.iload_n 1, 1) := by decide +kernel
theorem dX4_isBishopAsTried_15 : decode cX4_isBishopAsTried 15 = .ok (.if_icmp .ne 7, 3) := by decide +kernel
theorem dX4_isBishopAsTried_18 : decode cX4_isBishopAsTried 18 = .ok (.iconst 1, 1) := by decide +kernel
theorem dX4_isBishopAsTried_19 : decode cX4_isBishopAsTried 19 = .ok (.goto 4, 3) := by decide +kernel
theorem dX4_isBishopAsTried_22 : decode cX4_isBishopAsTried 22 = .ok (.iconst 0, 1) := by decide +kernel
theorem dX4_isBishopAsTried_23 : decode cX4_isBishopAsTried 23 = .ok (.ireturn, 1) := by decide +kernel
set_option maxRecDepth 20000 in
theorem ggX4_bitIfRead_X2_settle : GoodIn wsX4_bitIfRead wsX2_settle := goodIn_r _ [7, 8, 9, 10, 11, 12, 6, 13, 14, 15, 16, 17, 18, 19, 20, 21, 22, 23, 24, 25, 26, 27, 28, 29, 30, 31, 32, 33, 34, 35, 36, 37, 38, 39, 40, 41, 72, 73, 74, 75, 76, 77, 78, 79, 80, 81] (by decide +kernel) (by decide +kernel)
set_option maxRecDepth 20000 in
theorem gX4_bitIfRead_X2_settle : GoodIn wsX4_bitIfRead (wsV RX4 121 RX2 yX2_settle wsX2_settle) := goodIn_app (goodIn_of _ (by decide +kernel)) ggX4_bitIfRead_X2_settle
set_option maxRecDepth 20000 in
theorem ggX4_bitIfRead_X1_areSoIn : GoodIn wsX4_bitIfRead wsX1_areSoIn := goodIn_r _ [46, 47, 48, 49, 50, 51, 52, 53, 6, 54, 9, 21, 22, 23, 55, 56, 57, 58, 59, 60, 61, 62, 63, 64, 82, 83, 84, 85, 72, 73, 74, 75, 76, 77, 78, 79, 80, 81] (by decide +kernel) (by decide +kernel)
set_option maxRecDepth 20000 in
theorem gX4_bitIfRead_X1_areSoIn : GoodIn wsX4_bitIfRead (wsV RX4 245 RX1 yX1_areSoIn wsX1_areSoIn) := goodIn_app (goodIn_of _ (by decide +kernel)) ggX4_bitIfRead_X1_areSoIn
theorem dX4_bitIfRead_0 : decode cX4_bitIfRead 0 = .ok (.aload_n 0, 1) := by decide +kernel
theorem dX4_bitIfRead_1 : decode cX4_bitIfRead 1 = .ok (.getfield 18, 3) := by decide +kernel
theorem dX4_bitIfRead_4 : decode cX4_bitIfRead 4 = .ok (.invokevirtual 121, 3) := by decide +kernel
theorem dX4_bitIfRead_7 : decode cX4_bitIfRead 7 = .ok (.aload_n 0, 1) := by decide +kernel
theorem dX4_bitIfRead_8 : decode cX4_bitIfRead 8 = .ok (.getfield 31, 3) := by decide +kernel
theorem dX4_bitIfRead_11 : decode cX4_bitIfRead 11 = .ok (.aload_n 0, 1) := by decide +kernel
theorem dX4_bitIfRead_12 : decode cX4_bitIfRead 12 = .ok (.getfield 18, 3) := by decide +kernel
theorem dX4_bitIfRead_15 : decode cX4_bitIfRead 15 = .ok (.invokevirtual 245, 3) := by decide +kernel
theorem dX4_bitIfRead_18 : decode cX4_bitIfRead 18 = .ok (.ifCond .eq 9, 3) := by decide +kernel
theorem dX4_bitIfRead_21 : decode cX4_bitIfRead 21 = .ok (.iconst 1, 1) := by decide +kernel
theorem dX4_bitIfRead_22 : decode cX4_bitIfRead 22 = .ok (.iload_n 1, 1) := by decide +kernel
theorem dX4_bitIfRead_23 : decode cX4_bitIfRead 23 = .ok (.ishl, 1) := by decide +kernel
theorem dX4_bitIfRead_24 : decode cX4_bitIfRead 24 = .ok (.goto 4, 3) := by decide +kernel
theorem dX4_bitIfRead_27 : decode cX4_bitIfRead 27 = .ok (.iconst 0, 1) := by decide +kernel
theorem dX4_bitIfRead_28 : decode cX4_bitIfRead 28 = .ok (.ireturn, 1) := by decide +kernel
theorem dX4_commonDivisor_0 : decode cX4_commonDivisor 0 = .ok (.iload_n 0, 1) := by decide +kernel
theorem dX4_commonDivisor_1 : decode cX4_commonDivisor 1 = .ok (.istore_n 2, 1) := by decide +kernel
theorem dX4_commonDivisor_2 : decode cX4_commonDivisor 2 = .ok (.iload_n 2, 1) := by decide +kernel
theorem dX4_commonDivisor_3 : decode cX4_commonDivisor 3 = .ok (.iconst 1, 1) := by decide +kernel
theorem dX4_commonDivisor_4 : decode cX4_commonDivisor 4 = .ok (.if_icmp .le 21, 3) := by decide +kernel
theorem dX4_commonDivisor_7 : decode cX4_commonDivisor 7 = .ok (.iload_n 0, 1) := by decide +kernel
theorem dX4_commonDivisor_8 : decode cX4_commonDivisor 8 = .ok (.iload_n 2, 1) := by decide +kernel
theorem dX4_commonDivisor_9 : decode cX4_commonDivisor 9 = .ok (.irem, 1) := by decide +kernel
theorem dX4_commonDivisor_10 : decode cX4_commonDivisor 10 = .ok (.ifCond .ne 9, 3) := by decide +kernel
theorem dX4_commonDivisor_13 : decode cX4_commonDivisor 13 = .ok (.iload_n 1, 1) := by decide +kernel
theorem dX4_commonDivisor_14 : decode cX4_commonDivisor 14 = .ok (.iload_n 2, 1) := by decide +kernel
theorem dX4_commonDivisor_15 : decode cX4_commonDivisor 15 = .ok (.irem, 1) := by decide +kernel
theorem dX4_commonDivisor_16 : decode cX4_commonDivisor 16 = .ok (.ifCond .eq 9, 3) := by decide +kernel
theorem dX4_commonDivisor_19 : decode cX4_commonDivisor 19 = .ok (.iinc 2 (-1), 3) := by decide +kernel
theorem dX4_commonDivisor_22 : decode cX4_commonDivisor 22 = .ok (.goto (-20), 3) := by decide +kernel
theorem dX4_commonDivisor_25 : decode cX4_commonDivisor 25 = .ok (.iload_n 2, 1) := by decide +kernel
theorem dX4_commonDivisor_26 : decode cX4_commonDivisor 26 = .ok (.ireturn, 1) := by decide +kernel
theorem dX4_leaveTrace_0 : decode cX4_leaveTrace 0 = .ok (.aload_n 0, 1) := by decide +kernel
theorem dX4_leaveTrace_1 : decode cX4_leaveTrace 1 = .ok (.bipush 31, 2) := by decide +kernel
theorem dX4_leaveTrace_3 : decode cX4_leaveTrace 3 = .ok (.aload_n 0, 1) := by decide +kernel
theorem dX4_leaveTrace_4 : decode cX4_leaveTrace 4 = .ok (.getfield 218, 3) := by decide +kernel
theorem dX4_leaveTrace_7 : decode cX4_leaveTrace 7 = .ok (.imul, 1) := by decide +kernel
theorem dX4_leaveTrace_8 : decode cX4_leaveTrace 8 = .ok (.iload_n 1, 1) := by decide +kernel
theorem dX4_leaveTrace_9 : decode cX4_leaveTrace 9 = .ok (.iadd, 1) := by decide +kernel
theorem dX4_leaveTrace_10 : decode cX4_leaveTrace 10 = .ok (.putfield 218, 3) := by decide +kernel
theorem dX4_leaveTrace_13 : decode cX4_leaveTrace 13 = .ok (.return_, 1) := by decide +kernel
set_option maxRecDepth 20000 in
theorem ggX4_tellAsPupil_X4_leaveTrace : GoodIn wsX4_tellAsPupil wsX4_leaveTrace := goodIn_r _ [6, 7, 8, 9, 10, 11, 12, 13, 14] (by decide +kernel) (by decide +kernel)
set_option maxRecDepth 20000 in
theorem gX4_tellAsPupil_X4_leaveTrace : GoodIn wsX4_tellAsPupil (wsV RX4 215 RX4 yX4_leaveTrace wsX4_leaveTrace) := goodIn_app (goodIn_of _ (by decide +kernel)) ggX4_tellAsPupil_X4_leaveTrace
theorem dX4_tellAsPupil_0 : decode cX4_tellAsPupil 0 = .ok (.aload_n 0, 1) := by decide +kernel
theorem dX4_tellAsPupil_1 : decode cX4_tellAsPupil 1 = .ok (.iconst 1, 1) := by decide +kernel
theorem dX4_tellAsPupil_2 : decode cX4_tellAsPupil 2 = .ok (.invokevirtual 215, 3) := by decide +kernel
theorem dX4_tellAsPupil_5 : decode cX4_tellAsPupil 5 = .ok (.aload_n 0, 1) := by decide +kernel
theorem dX4_tellAsPupil_6 : decode cX4_tellAsPupil 6 = .ok (.getfield 12, 3) := by decide +kernel
theorem dX4_tellAsPupil_9 : decode cX4_tellAsPupil 9 = .ok (.getfield 89, 3) := by decide +kernel
theorem dX4_tellAsPupil_12 : decode cX4_tellAsPupil 12 = .ok (.iload_n 1, 1) := by decide +kernel
theorem dX4_tellAsPupil_13 : decode cX4_tellAsPupil 13 = .ok (.iaload, 1) := by decide +kernel
theorem dX4_tellAsPupil_14 : decode cX4_tellAsPupil 14 = .ok (.ireturn, 1) := by decide +kernel
set_option maxRecDepth 20000 in
theorem ggX4_tellAsDeacon_X4_leaveTrace : GoodIn wsX4_tellAsDeacon wsX4_leaveTrace := goodIn_r _ [5, 6, 12, 13, 14, 15, 16, 17, 18] (by decide +kernel) (by decide +kernel)
set_option maxRecDepth 20000 in
theorem gX4_tellAsDeacon_X4_leaveTrace : GoodIn wsX4_tellAsDeacon (wsV RX4 215 RX4 yX4_leaveTrace wsX4_leaveTrace) := goodIn_app (goodIn_of _ (by decide +kernel)) ggX4_tellAsDeacon_X4_leaveTrace
set_option maxRecDepth 20000 in
theorem ggX4_tellAsDeacon_X4_tellAsPupil : GoodIn wsX4_tellAsDeacon wsX4_tellAsPupil := goodIn_r _ [10, 11, 1, 2, 3, 4, 5, 6, 12, 13, 14, 15, 16, 17, 18, 19, 20, 21, 22, 23, 24, 25, 26, 27, 28] (by decide +kernel) (by decide +kernel)
set_option maxRecDepth 20000 in
theorem gX4_tellAsDeacon_X4_tellAsPupil : GoodIn wsX4_tellAsDeacon (wsV RX4 212 RX4 yX4_tellAsPupil wsX4_tellAsPupil) := goodIn_app (goodIn_of _ (by decide +kernel)) ggX4_tellAsDeacon_X4_tellAsPupil
theorem dX4_tellAsDeacon_0 : decode cX4_tellAsDeacon 0 = .ok (.aload_n 0, 1) := by decide +kernel
theorem dX4_tellAsDeacon_1 : decode cX4_tellAsDeacon 1 = .ok (.iconst 2, 1) := by decide +kernel
theorem dX4_tellAsDeacon_2 : decode cX4_tellAsDeacon 2 = .ok (.invokevirtual 215, 3) := by decide +kernel
theorem dX4_tellAsDeacon_5 : decode cX4_tellAsDeacon 5 = .ok (.aload_n 0, 1) := by decide +kernel
theorem dX4_tellAsDeacon_6 : decode cX4_tellAsDeacon 6 = .ok (.iload_n 1, 1) := by decide +kernel
theorem dX4_tellAsDeacon_7 : decode cX4_tellAsDeacon 7 = .ok (.invokevirtual 212, 3) := by decide +kernel
theorem dX4_tellAsDeacon_10 : decode cX4_tellAsDeacon 10 = .ok (.bipush 100, 2) := by decide +kernel
theorem dX4_tellAsDeacon_12 : decode cX4_tellAsDeacon 12 = .ok (.iadd, 1) := by decide +kernel
theorem dX4_tellAsDeacon_13 : decode cX4_tellAsDeacon 13 = .ok (.ireturn, 1) := by decide +kernel
set_option maxRecDepth 20000 in
theorem ggX4_tellAsCurate_X4_leaveTrace : GoodIn wsX4_tellAsCurate wsX4_leaveTrace := goodIn_r _ [5, 6, 16, 17, 18, 19, 20, 21, 22] (by decide +kernel) (by decide +kernel)
set_option maxRecDepth 20000 in
theorem gX4_tellAsCurate_X4_leaveTrace : GoodIn wsX4_tellAsCurate (wsV RX4 215 RX4 yX4_leaveTrace wsX4_leaveTrace) := goodIn_app (goodIn_of _ (by decide +kernel)) ggX4_tellAsCurate_X4_leaveTrace
set_option maxRecDepth 20000 in
theorem ggX4_tellAsCurate_X4_tellAsDeacon : GoodIn wsX4_tellAsCurate wsX4_tellAsDeacon := goodIn_r _ [10, 1, 2, 3, 4, 5, 6, 11, 12, 13, 14, 15, 16, 17, 18, 19, 20, 21, 22, 23, 24, 25, 26, 27, 28, 29, 30, 31, 32] (by decide +kernel) (by decide +kernel)
set_option maxRecDepth 20000 in
theorem gX4_tellAsCurate_X4_tellAsDeacon : GoodIn wsX4_tellAsCurate (wsV RX4 209 RX4 yX4_tellAsDeacon wsX4_tellAsDeacon) := goodIn_app (goodIn_of _ (by decide +kernel)) ggX4_tellAsCurate_X4_tellAsDeacon
set_option maxRecDepth 20000 in
theorem ggX4_tellAsCurate_X4_tellAsPupil : GoodIn wsX4_tellAsCurate wsX4_tellAsPupil := goodIn_r _ [14, 15, 1, 2, 3, 4, 5, 6, 16, 17, 18, 19, 20, 21, 22, 23, 24, 25, 26, 27, 28, 29, 30, 31, 32] (by decide +kernel) (by decide +kernel)
set_option maxRecDepth 20000 in
theorem gX4_tellAsCurate_X4_tellAsPupil : GoodIn wsX4_tellAsCurate (wsV RX4 212 RX4 yX4_tellAsPupil wsX4_tellAsPupil) := goodIn_app (goodIn_of _ (by decide +kernel)) ggX4_tellAsCurate_X4_tellAsPupil
theorem dX4_tellAsCurate_0 : decode cX4_tellAsCurate 0 = .ok (.aload_n 0, 1) := by decide +kernel
theorem dX4_tellAsCurate_1 : decode cX4_tellAsCurate 1 = .ok (.iconst 3, 1) := by decide +kernel
theorem dX4_tellAsCurate_2 : decode cX4_tellAsCurate 2 = .ok (.invokevirtual 215, 3) := by decide +kernel
theorem dX4_tellAsCurate_5 : decode cX4_tellAsCurate 5 = .ok (.aload_n 0, 1) := by decide +kernel
theorem dX4_tellAsCurate_6 : decode cX4_tellAsCurate 6 = .ok (.iload_n 1, 1) := by decide +kernel
theorem dX4_tellAsCurate_7 : decode cX4_tellAsCurate 7 = .ok (.invokevirtual 209, 3) := by decide +kernel
theorem dX4_tellAsCurate_10 : decode cX4_tellAsCurate 10 = .ok (.istore_n 2, 1) := by decide +kernel
theorem dX4_tellAsCurate_11 : decode cX4_tellAsCurate 11 = .ok (.iload_n 2, 1) := by decide +kernel
theorem dX4_tellAsCurate_12 : decode cX4_tellAsCurate 12 = .ok (.aload_n 0, 1) := by decide +kernel
theorem dX4_tellAsCurate_13 : decode cX4_tellAsCurate 13 = .ok (.iload_n 1, 1) := by decide +kernel
theorem dX4_tellAsCurate_14 : decode cX4_tellAsCurate 14 = .ok (.invokevirtual 212, 3) := by decide +kernel
theorem dX4_tellAsCurate_17 : decode cX4_tellAsCurate 17 = .ok (.iadd, 1) := by decide +kernel
theorem dX4_tellAsCurate_18 : decode cX4_tellAsCurate 18 = .ok (.ireturn, 1) := by decide +kernel

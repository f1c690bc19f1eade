theorem dX5_init_0 : decode cX5_init 0 = .ok (.aload_n 0, 1) := by decide +kernel
theorem dX5_init_1 : decode cX5_init 1 = .ok (.invokespecial 1, 3) := by decide +kernel
theorem dX5_init_4 : decode cX5_init 4 = .ok (.aload_n 0, 1) := by decide +kernel
theorem dX5_init_5 : decode cX5_init 5 = .ok (.iconst 4, 1) := by decide +kernel
theorem dX5_init_6 : decode cX5_init 6 = .ok (.newarray .int, 2) := by decide +kernel
theorem dX5_init_8 : decode cX5_init 8 = .ok (.dup, 1) := by decide +kernel
theorem dX5_init_9 : decode cX5_init 9 = .ok (.iconst 0, 1) := by decide +kernel
theorem dX5_init_10 : decode cX5_init 10 = .ok (.bipush (-9), 2) := by decide +kernel
theorem dX5_init_12 : decode cX5_init 12 = .ok (.iastore, 1) := by decide +kernel
theorem dX5_init_13 : decode cX5_init 13 = .ok (.dup, 1) := by decide +kernel
theorem dX5_init_14 : decode cX5_init 14 = .ok (.iconst 1, 1) := by decide +kernel
theorem dX5_init_15 : decode cX5_init 15 = .ok (.bipush (-9), 2) := by decide +kernel
theorem dX5_init_17 : decode cX5_init 17 = .ok (.iastore, 1) := by decide +kernel
theorem dX5_init_18 : decode cX5_init 18 = .ok (.dup, 1) := by decide +kernel
theorem dX5_init_19 : decode cX5_init 19 = .ok (.iconst 2, 1) := by decide +kernel
theorem dX5_init_20 : decode cX5_init 20 = .ok (.bipush (-9), 2) := by decide +kernel
theorem dX5_init_22 : decode cX5_init 22 = .ok (.iastore, 1) := by decide +kernel
theorem dX5_init_23 : decode cX5_init 23 = .ok (.dup, 1) := by decide +kernel
theorem dX5_init_24 : decode cX5_init 24 = .ok (.iconst 3, 1) := by decide +kernel
theorem dX5_init_25 : decode cX5_init 25 = .ok (.bipush (-9), 2) := by decide +kernel
theorem dX5_init_27 : decode cX5_init 27 = .ok (.iastore, 1) := by decide +kernel
theorem dX5_init_28 : decode cX5_init 28 = .ok (.putfield 9, 3) := by decide +kernel
theorem dX5_init_31 : decode cX5_init 31 = .ok (.aload_n 0, 1) := by decide +kernel
theorem dX5_init_32 : decode cX5_init 32 = .ok (.iconst 4, 1) := by decide +kernel
theorem dX5_init_33 : decode cX5_init 33 = .ok (.newarray .int, 2) := by decide +kernel
theorem dX5_init_35 : decode cX5_init 35 = .ok (.putfield 13, 3) := by decide +kernel
theorem dX5_init_38 : decode cX5_init 38 = .ok (.aload_n 0, 1) := by decide +kernel
theorem dX5_init_39 : decode cX5_init 39 = .ok (.sipush 240, 3) := by decide +kernel
theorem dX5_init_42 : decode cX5_init 42 = .ok (.newarray .int, 2) := by decide +kernel
theorem dX5_init_44 : decode cX5_init 44 = .ok (.putfield 16, 3) := by decide +kernel
theorem dX5_init_47 : decode cX5_init 47 = .ok (.aload_n 0, 1) := by decide +kernel
theorem dX5_init_48 : decode cX5_init 48 = .ok (.iconst 5, 1) := by decide +kernel
theorem dX5_init_49 : decode cX5_init 49 = .ok (.newarray .int, 2) := by decide +kernel
theorem dX5_init_51 : decode cX5_init 51 = .ok (.putfield 19, 3) := by decide +kernel
theorem dX5_init_54 : decode cX5_init 54 = .ok (.aload_n 0, 1) := by decide +kernel
theorem dX5_init_55 : decode cX5_init 55 = .ok (.iconst 4, 1) := by decide +kernel
theorem dX5_init_56 : decode cX5_init 56 = .ok (.newarray .int, 2) := by decide +kernel
theorem dX5_init_58 : decode cX5_init 58 = .ok (.putfield 22, 3) := by decide +kernel
theorem dX5_init_61 : decode cX5_init 61 = .ok (.aload_n 0, 1) := by decide +kernel
theorem dX5_init_62 : decode cX5_init 62 = .ok (.iconst 4, 1) := by decide +kernel
theorem dX5_init_63 : decode cX5_init 63 = .ok (.newarray .int, 2) := by decide +kernel
theorem dX5_init_65 : decode cX5_init 65 = .ok (.putfield 25, 3) := by decide +kernel
theorem dX5_init_68 : decode cX5_init 68 = .ok (.aload_n 0, 1) := by decide +kernel
theorem dX5_init_69 : decode cX5_init 69 = .ok (.iconst 4, 1) := by decide +kernel
theorem dX5_init_70 : decode cX5_init 70 = .ok (.newarray .int, 2) := by decide +kernel
theorem dX5_init_72 : decode cX5_init 72 = .ok (.putfield 28, 3) := by decide +kernel
theorem dX5_init_75 : decode cX5_init 75 = .ok (.aload_n 0, 1) := by decide +kernel
theorem dX5_init_76 : decode cX5_init 76 = .ok (.iconst 5, 1) := by decide +kernel
theorem dX5_init_77 : decode cX5_init 77 = .ok (.newarray .int, 2) := by decide +kernel
theorem dX5_init_79 : decode cX5_init 79 = .ok (.putfield 31, 3) := by decide +kernel
theorem dX5_init_82 : decode cX5_init 82 = .ok (.aload_n 0, 1) := by decide +kernel
theorem dX5_init_83 : decode cX5_init 83 = .ok (.iconst 4, 1) := by decide +kernel
theorem dX5_init_84 : decode cX5_init 84 = .ok (.newarray .int, 2) := by decide +kernel
theorem dX5_init_86 : decode cX5_init 86 = .ok (.putfield 34, 3) := by decide +kernel
theorem dX5_init_89 : decode cX5_init 89 = .ok (.aload_n 0, 1) := by decide +kernel
theorem dX5_init_90 : decode cX5_init 90 = .ok (.iconst 4, 1) := by decide +kernel
theorem dX5_init_91 : decode cX5_init 91 = .ok (.newarray .int, 2) := by decide +kernel
theorem dX5_init_93 : decode cX5_init 93 = .ok (.putfield 37, 3) := by decide +kernel
theorem dX5_init_96 : decode cX5_init 96 = .ok (.aload_n 0, 1) := by decide +kernel
theorem dX5_init_97 : decode cX5_init 97 = .ok (.iconst 4, 1) := by decide +kernel
theorem dX5_init_98 : decode cX5_init 98 = .ok (.newarray .int, 2) := by decide +kernel
theorem dX5_init_100 : decode cX5_init 100 = .ok (.putfield 40, 3) := by decide +kernel
theorem dX5_init_103 : decode cX5_init 103 = .ok (.aload_n 0, 1) := by decide +kernel
theorem dX5_init_104 : decode cX5_init 104 = .ok (.iconst 4, 1) := by decide +kernel
theorem dX5_init_105 : decode cX5_init 105 = .ok (.newarray .int, 2) := by decide +kernel
theorem dX5_init_107 : decode cX5_init 107 = .ok (.putfield 43, 3) := by decide +kernel
theorem dX5_init_110 : decode cX5_init 110 = .ok (.aload_n 0, 1) := by decide +kernel
theorem dX5_init_111 : decode cX5_init 111 = .ok (.bipush 8, 2) := by decide +kernel
theorem dX5_init_113 : decode cX5_init 113 = .ok (.newarray .int, 2) := by decide +kernel
theorem dX5_init_115 : decode cX5_init 115 = .ok (.putfield 46, 3) := by decide +kernel
theorem dX5_init_118 : decode cX5_init 118 = .ok (.aload_n 0, 1) := by decide +kernel
theorem dX5_init_119 : decode cX5_init 119 = .ok (.bipush 8, 2) := by decide +kernel
theorem dX5_init_121 : decode cX5_init 121 = .ok (.newarray .int, 2) := by decide +kernel
theorem dX5_init_123 : decode cX5_init 123 = .ok (.putfield 49, 3) := by decide +kernel
theorem dX5_init_126 : decode cX5_init 126 = .ok (.aload_n 0, 1) := by decide +kernel
theorem dX5_init_127 : decode cX5_init 127 = .ok (.bipush 8, 2) := by decide +kernel
theorem dX5_init_129 : decode cX5_init 129 = .ok (.newarray .int, 2) := by decide +kernel
theorem dX5_init_131 : decode cX5_init 131 = .ok (.putfield 52, 3) := by decide +kernel
theorem dX5_init_134 : decode cX5_init 134 = .ok (.return_, 1) := by decide +kernel
theorem dX5_fails_0 : decode cX5_fails 0 = .ok (.aload_n 0, 1) := by decide +kernel
theorem dX5_fails_1 : decode cX5_fails 1 = .ok (.iload_n 1, 1) := by decide +kernel
theorem dX5_fails_2 : decode cX5_fails 2 = .ok (.putfield 55, 3) := by decide +kernel
theorem dX5_fails_5 : decode cX5_fails 5 = .ok (.bipush (-10), 2) := by decide +kernel
theorem dX5_fails_7 : decode cX5_fails 7 = .ok (.iload_n 1, 1) := by decide +kernel
theorem dX5_fails_8 : decode cX5_fails 8 = .ok (.isub, 1) := by decide +kernel
theorem dX5_fails_9 : decode cX5_fails 9 = .ok (.ireturn, 1) := by decide +kernel
theorem dX5_lost_0 : decode cX5_lost 0 = .ok (.aload_n 0, 1) := by decide +kernel
theorem dX5_lost_1 : decode cX5_lost 1 = .ok (.iload_n 1, 1) := by decide +kernel
theorem dX5_lost_2 : decode cX5_lost 2 = .ok (.putfield 55, 3) := by decide +kernel
theorem dX5_lost_5 : decode cX5_lost 5 = .ok (.ldc2_w 59, 3) := by decide +kernel
theorem dX5_lost_8 : decode cX5_lost 8 = .ok (.lreturn, 1) := by decide +kernel
theorem dX5_within_0 : decode cX5_within 0 = .ok (.iload_n 0, 1) := by decide +kernel
theorem dX5_within_1 : decode cX5_within 1 = .ok (.iload_n 1, 1) := by decide +kernel
theorem dX5_within_2 : decode cX5_within 2 = .ok (.if_icmp .lt 12, 3) := by decide +kernel
theorem dX5_within_5 : decode cX5_within 5 = .ok (.iload_n 0, 1) := by decide +kernel
theorem dX5_within_6 : decode cX5_within 6 = .ok (.iload_n 2, 1) := by decide +kernel
theorem dX5_within_7 : decode cX5_within 7 = .ok (.if_icmp .gt 7, 3) := by decide +kernel
theorem dX5_within_10 : decode cX5_within 10 = .ok (.iconst 1, 1) := by decide +kernel
theorem dX5_within_11 : decode cX5_within 11 = .ok (.goto 4, 3) := by decide +kernel
theorem dX5_within_14 : decode cX5_within 14 = .ok (.iconst 0, 1) := by decide +kernel
theorem dX5_within_15 : decode cX5_within 15 = .ok (.ireturn, 1) := by decide +kernel
set_option maxRecDepth 20000 in
theorem ggX5_isSheet_X5_within : GoodIn wsX5_isSheet wsX5_within := goodIn_r _ [4] (by decide +kernel) (by decide +kernel)
set_option maxRecDepth 20000 in
theorem gX5_isSheet_X5_within : GoodIn wsX5_isSheet (va_wsS RX5 61 yX5_within wsX5_within) := goodIn_app (goodIn_of _ (by decide +kernel)) ggX5_isSheet_X5_within
theorem dX5_isSheet_0 : decode cX5_isSheet 0 = .ok (.iload_n 0, 1) := by decide +kernel
theorem dX5_isSheet_1 : decode cX5_isSheet 1 = .ok (.iconst 0, 1) := by decide +kernel
theorem dX5_isSheet_2 : decode cX5_isSheet 2 = .ok (.iconst 3, 1) := by decide +kernel
theorem dX5_isSheet_3 : decode cX5_isSheet 3 = .ok (.invokestatic 61, 3) := by decide +kernel
theorem dX5_isSheet_6 : decode cX5_isSheet 6 = .ok (.ireturn, 1) := by decide +kernel
set_option maxRecDepth 20000 in
theorem ggX5_isSort_X5_within : GoodIn wsX5_isSort wsX5_within := goodIn_r _ [4] (by decide +kernel) (by decide +kernel)
set_option maxRecDepth 20000 in
theorem gX5_isSort_X5_within : GoodIn wsX5_isSort (va_wsS RX5 61 yX5_within wsX5_within) := goodIn_app (goodIn_of _ (by decide +kernel)) ggX5_isSort_X5_within
theorem dX5_isSort_0 : decode cX5_isSort 0 = .ok (.iload_n 0, 1) := by decide +kernel
theorem dX5_isSort_1 : decode cX5_isSort 1 = .ok (.iconst 0, 1) := by decide +kernel
theorem dX5_isSort_2 : decode cX5_isSort 2 = .ok (.iconst 2, 1) := by decide +kernel
theorem dX5_isSort_3 : decode cX5_isSort 3 = .ok (.invokestatic 61, 3) := by decide +kernel
theorem dX5_isSort_6 : decode cX5_isSort 6 = .ok (.ireturn, 1) := by decide +kernel
theorem dX5_against_0 : decode cX5_against 0 = .ok (.aload_n 0, 1) := by decide +kernel
theorem dX5_against_1 : decode cX5_against 1 = .ok (.getfield 9, 3) := by decide +kernel
theorem dX5_against_4 : decode cX5_against 4 = .ok (.iload_n 1, 1) := by decide +kernel
theorem dX5_against_5 : decode cX5_against 5 = .ok (.iaload, 1) := by decide +kernel
theorem dX5_against_6 : decode cX5_against 6 = .ok (.bipush (-9), 2) := by decide +kernel
theorem dX5_against_8 : decode cX5_against 8 = .ok (.if_icmp .eq 15, 3) := by decide +kernel
theorem dX5_against_11 : decode cX5_against 11 = .ok (.aload_n 0, 1) := by decide +kernel
theorem dX5_against_12 : decode cX5_against 12 = .ok (.getfield 9, 3) := by decide +kernel
theorem dX5_against_15 : decode cX5_against 15 = .ok (.iload_n 1, 1) := by decide +kernel
theorem dX5_against_16 : decode cX5_against 16 = .ok (.iaload, 1) := by decide +kernel
theorem dX5_against_17 : decode cX5_against 17 = .ok (.iload_n 2, 1) := by decide +kernel
theorem dX5_against_18 : decode cX5_against 18 = .ok (.if_icmp .eq 5, 3) := by decide +kernel
theorem dX5_against_21 : decode cX5_against 21 = .ok (.iconst 2, 1) := by decide +kernel
theorem dX5_against_22 : decode cX5_against 22 = .ok (.ireturn, 1) := by decide +kernel
theorem dX5_against_23 : decode cX5_against 23 = .ok (.aload_n 0, 1) := by decide +kernel
theorem dX5_against_24 : decode cX5_against 24 = .ok (.getfield 9, 3) := by decide +kernel
theorem dX5_against_27 : decode cX5_against 27 = .ok (.iload_n 1, 1) := by decide +kernel
theorem dX5_against_28 : decode cX5_against 28 = .ok (.iaload, 1) := by decide +kernel
theorem dX5_against_29 : decode cX5_against 29 = .ok (.bipush (-9), 2) := by decide +kernel
theorem dX5_against_31 : decode cX5_against 31 = .ok (.if_icmp .ne 5, 3) := by decide +kernel
theorem dX5_against_34 : decode cX5_against 34 = .ok (.iconst 1, 1) := by decide +kernel
theorem dX5_against_35 : decode cX5_against 35 = .ok (.ireturn, 1) := by decide +kernel
theorem dX5_against_36 : decode cX5_against 36 = .ok (.iload 4, 2) := by decide +kernel
theorem dX5_against_38 : decode cX5_against 38 = .ok (.ifCond .ge 5, 3) := by decide +kernel
theorem dX5_against_41 : decode cX5_against 41 = .ok (.iconst 4, 1) := by decide +kernel
theorem dX5_against_42 : decode cX5_against 42 = .ok (.ireturn, 1) := by decide +kernel
theorem dX5_against_43 : decode cX5_against 43 = .ok (.iload_n 3, 1) := by decide +kernel
theorem dX5_against_44 : decode cX5_against 44 = .ok (.ifCond .lt 26, 3) := by decide +kernel
theorem dX5_against_47 : decode cX5_against 47 = .ok (.iload_n 3, 1) := by decide +kernel
theorem dX5_against_48 : decode cX5_against 48 = .ok (.aload_n 0, 1) := by decide +kernel
theorem dX5_against_49 : decode cX5_against 49 = .ok (.getfield 13, 3) := by decide +kernel
theorem dX5_against_52 : decode cX5_against 52 = .ok (.iload_n 1, 1) := by decide +kernel
theorem dX5_against_53 : decode cX5_against 53 = .ok (.iaload, 1) := by decide +kernel
theorem dX5_against_54 : decode cX5_against 54 = .ok (.if_icmp .gt 16, 3) := by decide +kernel
theorem dX5_against_57 : decode cX5_against 57 = .ok (.iload 4, 2) := by decide +kernel
theorem dX5_against_59 : decode cX5_against 59 = .ok (.aload_n 0, 1) := by decide +kernel
theorem dX5_against_60 : decode cX5_against 60 = .ok (.getfield 13, 3) := by decide +kernel
theorem dX5_against_63 : decode cX5_against 63 = .ok (.iload_n 1, 1) := by decide +kernel
theorem dX5_against_64 : decode cX5_against 64 = .ok (.iaload, 1) := by decide +kernel
theorem dX5_against_65 : decode cX5_against 65 = .ok (.iload_n 3, 1) := by decide +kernel
theorem dX5_against_66 : decode cX5_against 66 = .ok (.isub, 1) := by decide +kernel
theorem dX5_against_67 : decode cX5_against 67 = .ok (.if_icmp .le 7, 3) := by decide +kernel
theorem dX5_against_70 : decode cX5_against 70 = .ok (.iconst 3, 1) := by decide +kernel
theorem dX5_against_71 : decode cX5_against 71 = .ok (.goto 4, 3) := by decide +kernel
theorem dX5_against_74 : decode cX5_against 74 = .ok (.iconst 0, 1) := by decide +kernel
theorem dX5_against_75 : decode cX5_against 75 = .ok (.ireturn, 1) := by decide +kernel
theorem dX5_isPupil_0 : decode cX5_isPupil 0 = .ok (.iload_n 1, 1) := by decide +kernel
theorem dX5_isPupil_1 : decode cX5_isPupil 1 = .ok (.ifCond .lt 15, 3) := by decide +kernel
theorem dX5_isPupil_4 : decode cX5_isPupil 4 = .ok (.iload_n 1, 1) := by decide +kernel
theorem dX5_isPupil_5 : decode cX5_isPupil 5 = .ok (.aload_n 0, 1) := by decide +kernel
theorem dX5_isPupil_6 : decode cX5_isPupil 6 = .ok (.getfield 65, 3) := by decide +kernel
theorem dX5_isPupil_9 : decode cX5_isPupil 9 = .ok (.if_icmp .ge 7, 3) := by decide +kernel
theorem dX5_isPupil_12 : decode cX5_isPupil 12 = .ok (.iconst 1, 1) := by decide +kernel
theorem dX5_isPupil_13 : decode cX5_isPupil 13 = .ok (.goto 4, 3) := by decide +kernel
theorem dX5_isPupil_16 : decode cX5_isPupil 16 = .ok (.iconst 0, 1) := by decide +kernel
theorem dX5_isPupil_17 : decode cX5_isPupil 17 = .ok (.ireturn, 1) := by decide +kernel
theorem dX5_isDay_0 : decode cX5_isDay 0 = .ok (.iload_n 1, 1) := by decide +kernel
theorem dX5_isDay_1 : decode cX5_isDay 1 = .ok (.ifCond .lt 15, 3) := by decide +kernel
theorem dX5_isDay_4 : decode cX5_isDay 4 = .ok (.iload_n 1, 1) := by decide +kernel
theorem dX5_isDay_5 : decode cX5_isDay 5 = .ok (.aload_n 0, 1) := by decide +kernel
theorem dX5_isDay_6 : decode cX5_isDay 6 = .ok (.getfield 68, 3) := by decide +kernel
theorem dX5_isDay_9 : decode cX5_isDay 9 = .ok (.if_icmp .ge 7, 3) := by decide +kernel
theorem dX5_isDay_12 : decode cX5_isDay 12 = .ok (.iconst 1, 1) := by decide +kernel
theorem dX5_isDay_13 : decode cX5_isDay 13 = .ok (.goto 4, 3) := by decide +kernel
theorem dX5_isDay_16 : decode cX5_isDay 16 = .ok (.iconst 0, 1) := by decide +kernel
theorem dX5_isDay_17 : decode cX5_isDay 17 = .ok (.ireturn, 1) := by decide +kernel
set_option maxRecDepth 20000 in
theorem ggX5_isDigit_X5_within : GoodIn wsX5_isDigit wsX5_within := goodIn_r _ [4] (by decide +kernel) (by decide +kernel)
set_option maxRecDepth 20000 in
theorem gX5_isDigit_X5_within : GoodIn wsX5_isDigit (va_wsS RX5 61 yX5_within wsX5_within) := goodIn_app (goodIn_of _ (by decide +kernel)) ggX5_isDigit_X5_within
theorem dX5_isDigit_0 : decode cX5_isDigit 0 = .ok (.iload_n 0, 1) := by decide +kernel
theorem dX5_isDigit_1 : decode cX5_isDigit 1 = .ok (.iconst 0, 1) := by decide +kernel
theorem dX5_isDigit_2 : decode cX5_isDigit 2 = .ok (.bipush 9, 2) := by decide +kernel
theorem dX5_isDigit_4 : decode cX5_isDigit 4 = .ok (.invokestatic 61, 3) := by decide +kernel
theorem dX5_isDigit_7 : decode cX5_isDigit 7 = .ok (.ireturn, 1) := by decide +kernel
set_option maxRecDepth 20000 in
theorem ggX5_digit_X5_within : GoodIn wsX5_digit wsX5_within := goodIn_r _ [6] (by decide +kernel) (by decide +kernel)
set_option maxRecDepth 20000 in
theorem gX5_digit_X5_within : GoodIn wsX5_digit (va_wsS RX5 61 yX5_within wsX5_within) := goodIn_app (goodIn_of _ (by decide +kernel)) ggX5_digit_X5_within
theorem dX5_digit_0 : decode cX5_digit 0 = .ok (.aload_n 0, 1) := by decide +kernel
theorem dX5_digit_1 : decode cX5_digit 1 = .ok (.getfield 71, 3) := by decide +kernel
theorem dX5_digit_4 : decode cX5_digit 4 = .ok (.iload_n 1, 1) := by decide +kernel
theorem dX5_digit_5 : decode cX5_digit 5 = .ok (.if_icmp .ge 26, 3) := by decide +kernel
theorem dX5_digit_8 : decode cX5_digit 8 = .ok (.aload_n 0, 1) := by decide +kernel
theorem dX5_digit_9 : decode cX5_digit 9 = .ok (.getfield 16, 3) := by decide +kernel
theorem dX5_digit_12 : decode cX5_digit 12 = .ok (.aload_n 0, 1) := by decide +kernel
theorem dX5_digit_13 : decode cX5_digit 13 = .ok (.getfield 71, 3) := by decide +kernel
theorem dX5_digit_16 : decode cX5_digit 16 = .ok (.iaload, 1) := by decide +kernel
theorem dX5_digit_17 : decode cX5_digit 17 = .ok (.bipush 48, 2) := by decide +kernel
theorem dX5_digit_19 : decode cX5_digit 19 = .ok (.iload_n 2, 1) := by decide +kernel
theorem dX5_digit_20 : decode cX5_digit 20 = .ok (.iadd, 1) := by decide +kernel
theorem dX5_digit_21 : decode cX5_digit 21 = .ok (.bipush 48, 2) := by decide +kernel
theorem dX5_digit_23 : decode cX5_digit 23 = .ok (.iload_n 3, 1) := by decide +kernel
theorem dX5_digit_24 : decode cX5_digit 24 = .ok (.iadd, 1) := by decide +kernel
theorem dX5_digit_25 : decode cX5_digit 25 = .ok (.invokestatic 61, 3) := by decide +kernel
theorem dX5_digit_28 : decode cX5_digit 28 = .ok (.ifCond .ne 6, 3) := by decide +kernel
theorem dX5_digit_31 : decode cX5_digit 31 = .ok (.bipush (-9), 2) := by decide +kernel
theorem dX5_digit_33 : decode cX5_digit 33 = .ok (.ireturn, 1) := by decide +kernel
theorem dX5_digit_34 : decode cX5_digit 34 = .ok (.aload_n 0, 1) := by decide +kernel
theorem dX5_digit_35 : decode cX5_digit 35 = .ok (.dup, 1) := by decide +kernel
theorem dX5_digit_36 : decode cX5_digit 36 = .ok (.getfield 71, 3) := by decide +kernel
theorem dX5_digit_39 : decode cX5_digit 39 = .ok (.iconst 1, 1) := by decide +kernel
theorem dX5_digit_40 : decode cX5_digit 40 = .ok (.iadd, 1) := by decide +kernel
theorem dX5_digit_41 : decode cX5_digit 41 = .ok (.putfield 71, 3) := by decide +kernel
theorem dX5_digit_44 : decode cX5_digit 44 = .ok (.aload_n 0, 1) := by decide +kernel
theorem dX5_digit_45 : decode cX5_digit 45 = .ok (.getfield 16, 3) := by decide +kernel
theorem dX5_digit_48 : decode cX5_digit 48 = .ok (.aload_n 0, 1) := by decide +kernel
theorem dX5_digit_49 : decode cX5_digit 49 = .ok (.getfield 71, 3) := by decide +kernel
theorem dX5_digit_52 : decode cX5_digit 52 = .ok (.iconst 1, 1) := by decide +kernel
theorem dX5_digit_53 : decode cX5_digit 53 = .ok (.isub, 1) := by decide +kernel
theorem dX5_digit_54 : decode cX5_digit 54 = .ok (.iaload, 1) := by decide +kernel
theorem dX5_digit_55 : decode cX5_digit 55 = .ok (.bipush 48, 2) := by decide +kernel
theorem dX5_digit_57 : decode cX5_digit 57 = .ok (.isub, 1) := by decide +kernel
theorem dX5_digit_58 : decode cX5_digit 58 = .ok (.ireturn, 1) := by decide +kernel
theorem dX5_isSign_0 : decode cX5_isSign 0 = .ok (.aload_n 0, 1) := by decide +kernel
theorem dX5_isSign_1 : decode cX5_isSign 1 = .ok (.getfield 71, 3) := by decide +kernel
theorem dX5_isSign_4 : decode cX5_isSign 4 = .ok (.iload_n 1, 1) := by decide +kernel
theorem dX5_isSign_5 : decode cX5_isSign 5 = .ok (.if_icmp .ge 16, 3) := by decide +kernel
theorem dX5_isSign_8 : decode cX5_isSign 8 = .ok (.aload_n 0, 1) := by decide +kernel
theorem dX5_isSign_9 : decode cX5_isSign 9 = .ok (.getfield 16, 3) := by decide +kernel
theorem dX5_isSign_12 : decode cX5_isSign 12 = .ok (.aload_n 0, 1) := by decide +kernel
theorem dX5_isSign_13 : decode cX5_isSign 13 = .ok (.getfield 71, 3) := by decide +kernel
theorem dX5_isSign_16 : decode cX5_isSign 16 = .ok (.iaload, 1) := by decide +kernel
theorem dX5_isSign_17 : decode cX5_isSign 17 = .ok (.iload_n 2, 1) := by decide +kernel
theorem dX5_isSign_18 : decode cX5_isSign 18 = .ok (.if_icmp .eq 5, 3) := by decide +kernel
theorem dX5_isSign_21 : decode cX5_isSign 21 = .ok (.iconst 0, 1) := by decide +kernel
theorem dX5_isSign_22 : decode cX5_isSign 22 = .ok (.ireturn, 1) := by decide +kernel
theorem dX5_isSign_23 : decode cX5_isSign 23 = .ok (.aload_n 0, 1) := by decide +kernel
theorem dX5_isSign_24 : decode cX5_isSign 24 = .ok (.dup, 1) := by decide +kernel
theorem dX5_isSign_25 : decode cX5_isSign 25 = .ok (.getfield 71, 3) := by decide +kernel
theorem dX5_isSign_28 : decode cX5_isSign 28 = .ok (.iconst 1, 1) := by decide +kernel
theorem dX5_isSign_29 : decode cX5_isSign 29 = .ok (.iadd, 1) := by decide +kernel
theorem dX5_isSign_30 : decode cX5_isSign 30 = .ok (.putfield 71, 3) := by decide +kernel
theorem dX5_isSign_33 : decode cX5_isSign 33 = .ok (.iconst 1, 1) := by decide +kernel
theorem dX5_isSign_34 : decode cX5_isSign 34 = .ok (.ireturn, 1) := by decide +kernel
set_option maxRecDepth 20000 in
theorem ggX5_see_X5_isSheet : GoodIn wsX5_see wsX5_isSheet := goodIn_r _ [7, 8, 9, 6, 10] (by decide +kernel) (by decide +kernel)
set_option maxRecDepth 20000 in
theorem gX5_see_X5_isSheet : GoodIn wsX5_see (va_wsS RX5 74 yX5_isSheet wsX5_isSheet) := goodIn_app (goodIn_of _ (by decide +kernel)) ggX5_see_X5_isSheet
set_option maxRecDepth 20000 in
theorem ggX5_see_X5_isSort : GoodIn wsX5_see wsX5_isSort := goodIn_r _ [13, 8, 9, 6, 10] (by decide +kernel) (by decide +kernel)
set_option maxRecDepth 20000 in
theorem gX5_see_X5_isSort : GoodIn wsX5_see (va_wsS RX5 78 yX5_isSort wsX5_isSort) := goodIn_app (goodIn_of _ (by decide +kernel)) ggX5_see_X5_isSort
set_option maxRecDepth 20000 in
theorem ggX5_see_X5_against : GoodIn wsX5_see wsX5_against := goodIn_r _ [17, 18, 19, 65, 66, 67, 68, 69, 70, 71, 72, 73, 74, 75, 76, 77, 78, 79, 80, 81, 82, 83, 84, 85, 86, 87, 88, 89, 90, 91] (by decide +kernel) (by decide +kernel)
set_option maxRecDepth 20000 in
theorem gX5_see_X5_against : GoodIn wsX5_see (wsV RX5 81 RX5 yX5_against wsX5_against) := goodIn_app (goodIn_of _ (by decide +kernel)) ggX5_see_X5_against
set_option maxRecDepth 20000 in
theorem ggX5_see_X5_fails : GoodIn wsX5_see wsX5_fails := goodIn_r _ [23, 1, 65, 66, 67, 68, 69, 70, 71, 72, 73, 74, 75, 76, 77, 78, 79, 80, 81, 82, 83, 84, 85, 86, 87, 88, 89, 90, 91] (by decide +kernel) (by decide +kernel)
set_option maxRecDepth 20000 in
theorem gX5_see_X5_fails : GoodIn wsX5_see (wsV RX5 85 RX5 yX5_fails wsX5_fails) := goodIn_app (goodIn_of _ (by decide +kernel)) ggX5_see_X5_fails
set_option maxRecDepth 20000 in
theorem ggX5_see_X5_readSee : GoodIn wsX5_see wsX5_readSee := goodIn_r _ [27, 28, 29, 30, 2, 31, 32, 33, 6, 34, 35, 36, 37, 38, 39, 8, 9, 10, 40, 41, 42, 43, 44, 45, 46, 47, 48, 49, 50, 51, 52, 65, 66, 67, 68, 69, 70, 71, 72, 73, 74, 75, 76, 77, 78, 79, 80, 81, 82, 83, 84, 85, 86, 87, 88, 89, 90, 91] (by decide +kernel) (by decide +kernel)
set_option maxRecDepth 20000 in
theorem gX5_see_X5_readSee : GoodIn wsX5_see (wsV RX5 89 RX5 yX5_readSee wsX5_readSee) := goodIn_app (goodIn_of _ (by decide +kernel)) ggX5_see_X5_readSee
set_option maxRecDepth 20000 in
theorem ggX5_see_X5_takeSee : GoodIn wsX5_see wsX5_takeSee := goodIn_r _ [56, 28, 57, 29, 58, 44, 59, 60, 45, 30, 3, 61, 50, 62, 51, 63, 52, 64, 65, 66, 67, 68, 69, 70, 71, 72, 73, 74, 75, 76, 77, 78, 79, 80, 81, 82, 83, 84, 85, 86, 87, 88, 89, 90, 91] (by decide +kernel) (by decide +kernel)
set_option maxRecDepth 20000 in
theorem gX5_see_X5_takeSee : GoodIn wsX5_see (wsV RX5 92 RX5 yX5_takeSee wsX5_takeSee) := goodIn_app (goodIn_of _ (by decide +kernel)) ggX5_see_X5_takeSee
theorem dX5_see_0 : decode cX5_see 0 = .ok (.aload_n 0, 1) := by decide +kernel
theorem dX5_see_1 : decode cX5_see 1 = .ok (.iconst 0, 1) := by decide +kernel
theorem dX5_see_2 : decode cX5_see 2 = .ok (.putfield 55, 3) := by decide +kernel
theorem dX5_see_5 : decode cX5_see 5 = .ok (.iload_n 1, 1) := by decide +kernel
theorem dX5_see_6 : decode cX5_see 6 = .ok (.invokestatic 74, 3) := by decide +kernel
theorem dX5_see_9 : decode cX5_see 9 = .ok (.ifCond .ne 5, 3) := by decide +kernel
theorem dX5_see_12 : decode cX5_see 12 = .ok (.iconst (-1), 1) := by decide +kernel
theorem dX5_see_13 : decode cX5_see 13 = .ok (.ireturn, 1) := by decide +kernel
theorem dX5_see_14 : decode cX5_see 14 = .ok (.iload_n 2, 1) := by decide +kernel
theorem dX5_see_15 : decode cX5_see 15 = .ok (.invokestatic 78, 3) := by decide +kernel
theorem dX5_see_18 : decode cX5_see 18 = .ok (.ifCond .ne 6, 3) := by decide +kernel
theorem dX5_see_21 : decode cX5_see 21 = .ok (.bipush (-2), 2) := by decide +kernel
theorem dX5_see_23 : decode cX5_see 23 = .ok (.ireturn, 1) := by decide +kernel
theorem dX5_see_24 : decode cX5_see 24 = .ok (.aload_n 0, 1) := by decide +kernel
theorem dX5_see_25 : decode cX5_see 25 = .ok (.iload_n 1, 1) := by decide +kernel
theorem dX5_see_26 : decode cX5_see 26 = .ok (.iload_n 2, 1) := by decide +kernel
theorem dX5_see_27 : decode cX5_see 27 = .ok (.iload_n 3, 1) := by decide +kernel
theorem dX5_see_28 : decode cX5_see 28 = .ok (.iload 4, 2) := by decide +kernel
theorem dX5_see_30 : decode cX5_see 30 = .ok (.invokevirtual 81, 3) := by decide +kernel
theorem dX5_see_33 : decode cX5_see 33 = .ok (.istore 5, 2) := by decide +kernel
theorem dX5_see_35 : decode cX5_see 35 = .ok (.iload 5, 2) := by decide +kernel
theorem dX5_see_37 : decode cX5_see 37 = .ok (.ifCond .eq 10, 3) := by decide +kernel
theorem dX5_see_40 : decode cX5_see 40 = .ok (.aload_n 0, 1) := by decide +kernel
theorem dX5_see_41 : decode cX5_see 41 = .ok (.iload 5, 2) := by decide +kernel
theorem dX5_see_43 : decode cX5_see 43 = .ok (.invokevirtual 85, 3) := by decide +kernel
theorem dX5_see_46 : decode cX5_see 46 = .ok (.ireturn, 1) := by decide +kernel
theorem dX5_see_47 : decode cX5_see 47 = .ok (.bipush 60, 2) := by decide +kernel
theorem dX5_see_49 : decode cX5_see 49 = .ok (.iload_n 1, 1) := by decide +kernel
theorem dX5_see_50 : decode cX5_see 50 = .ok (.imul, 1) := by decide +kernel
theorem dX5_see_51 : decode cX5_see 51 = .ok (.iload_n 3, 1) := by decide +kernel
theorem dX5_see_52 : decode cX5_see 52 = .ok (.iadd, 1) := by decide +kernel
theorem dX5_see_53 : decode cX5_see 53 = .ok (.istore 6, 2) := by decide +kernel
theorem dX5_see_55 : decode cX5_see 55 = .ok (.aload_n 0, 1) := by decide +kernel
theorem dX5_see_56 : decode cX5_see 56 = .ok (.iload 6, 2) := by decide +kernel
theorem dX5_see_58 : decode cX5_see 58 = .ok (.putfield 71, 3) := by decide +kernel
theorem dX5_see_61 : decode cX5_see 61 = .ok (.aload_n 0, 1) := by decide +kernel
theorem dX5_see_62 : decode cX5_see 62 = .ok (.iload 6, 2) := by decide +kernel
theorem dX5_see_64 : decode cX5_see 64 = .ok (.iload 4, 2) := by decide +kernel
theorem dX5_see_66 : decode cX5_see 66 = .ok (.iadd, 1) := by decide +kernel
theorem dX5_see_67 : decode cX5_see 67 = .ok (.invokevirtual 89, 3) := by decide +kernel
theorem dX5_see_70 : decode cX5_see 70 = .ok (.ifCond .ne 14, 3) := by decide +kernel
theorem dX5_see_73 : decode cX5_see 73 = .ok (.bipush (-100), 2) := by decide +kernel
theorem dX5_see_75 : decode cX5_see 75 = .ok (.aload_n 0, 1) := by decide +kernel
theorem dX5_see_76 : decode cX5_see 76 = .ok (.getfield 71, 3) := by decide +kernel
theorem dX5_see_79 : decode cX5_see 79 = .ok (.iload 6, 2) := by decide +kernel
theorem dX5_see_81 : decode cX5_see 81 = .ok (.isub, 1) := by decide +kernel
theorem dX5_see_82 : decode cX5_see 82 = .ok (.isub, 1) := by decide +kernel
theorem dX5_see_83 : decode cX5_see 83 = .ok (.ireturn, 1) := by decide +kernel
theorem dX5_see_84 : decode cX5_see 84 = .ok (.aload_n 0, 1) := by decide +kernel
theorem dX5_see_85 : decode cX5_see 85 = .ok (.invokevirtual 92, 3) := by decide +kernel
theorem dX5_see_88 : decode cX5_see 88 = .ok (.aload_n 0, 1) := by decide +kernel
theorem dX5_see_89 : decode cX5_see 89 = .ok (.getfield 65, 3) := by decide +kernel
theorem dX5_see_92 : decode cX5_see 92 = .ok (.ireturn, 1) := by decide +kernel
theorem dX5_takeSee_0 : decode cX5_takeSee 0 = .ok (.aload_n 0, 1) := by decide +kernel
theorem dX5_takeSee_1 : decode cX5_takeSee 1 = .ok (.aload_n 0, 1) := by decide +kernel
theorem dX5_takeSee_2 : decode cX5_takeSee 2 = .ok (.getfield 95, 3) := by decide +kernel
theorem dX5_takeSee_5 : decode cX5_takeSee 5 = .ok (.putfield 98, 3) := by decide +kernel
theorem dX5_takeSee_8 : decode cX5_takeSee 8 = .ok (.aload_n 0, 1) := by decide +kernel
theorem dX5_takeSee_9 : decode cX5_takeSee 9 = .ok (.aload_n 0, 1) := by decide +kernel
theorem dX5_takeSee_10 : decode cX5_takeSee 10 = .ok (.getfield 101, 3) := by decide +kernel
theorem dX5_takeSee_13 : decode cX5_takeSee 13 = .ok (.putfield 104, 3) := by decide +kernel
theorem dX5_takeSee_16 : decode cX5_takeSee 16 = .ok (.aload_n 0, 1) := by decide +kernel
theorem dX5_takeSee_17 : decode cX5_takeSee 17 = .ok (.aload_n 0, 1) := by decide +kernel
theorem dX5_takeSee_18 : decode cX5_takeSee 18 = .ok (.getfield 107, 3) := by decide +kernel
theorem dX5_takeSee_21 : decode cX5_takeSee 21 = .ok (.putfield 68, 3) := by decide +kernel
theorem dX5_takeSee_24 : decode cX5_takeSee 24 = .ok (.iconst 0, 1) := by decide +kernel
theorem dX5_takeSee_25 : decode cX5_takeSee 25 = .ok (.istore_n 1, 1) := by decide +kernel
theorem dX5_takeSee_26 : decode cX5_takeSee 26 = .ok (.iload_n 1, 1) := by decide +kernel
theorem dX5_takeSee_27 : decode cX5_takeSee 27 = .ok (.aload_n 0, 1) := by decide +kernel
theorem dX5_takeSee_28 : decode cX5_takeSee 28 = .ok (.getfield 68, 3) := by decide +kernel
theorem dX5_takeSee_31 : decode cX5_takeSee 31 = .ok (.if_icmp .ge 21, 3) := by decide +kernel
theorem dX5_takeSee_34 : decode cX5_takeSee 34 = .ok (.aload_n 0, 1) := by decide +kernel
theorem dX5_takeSee_35 : decode cX5_takeSee 35 = .ok (.getfield 19, 3) := by decide +kernel
theorem dX5_takeSee_38 : decode cX5_takeSee 38 = .ok (.iload_n 1, 1) := by decide +kernel
theorem dX5_takeSee_39 : decode cX5_takeSee 39 = .ok (.aload_n 0, 1) := by decide +kernel
theorem dX5_takeSee_40 : decode cX5_takeSee 40 = .ok (.getfield 31, 3) := by decide +kernel
theorem dX5_takeSee_43 : decode cX5_takeSee 43 = .ok (.iload_n 1, 1) := by decide +kernel
theorem dX5_takeSee_44 : decode cX5_takeSee 44 = .ok (.iaload, 1) := by decide +kernel
theorem dX5_takeSee_45 : decode cX5_takeSee 45 = .ok (.iastore, 1) := by decide +kernel
theorem dX5_takeSee_46 : decode cX5_takeSee 46 = .ok (.iinc 1 1, 3) := by decide +kernel
theorem dX5_takeSee_49 : decode cX5_takeSee 49 = .ok (.goto (-23), 3) := by decide +kernel
theorem dX5_takeSee_52 : decode cX5_takeSee 52 = .ok (.aload_n 0, 1) := by decide +kernel
theorem dX5_takeSee_53 : decode cX5_takeSee 53 = .ok (.aload_n 0, 1) := by decide +kernel
theorem dX5_takeSee_54 : decode cX5_takeSee 54 = .ok (.getfield 110, 3) := by decide +kernel
theorem dX5_takeSee_57 : decode cX5_takeSee 57 = .ok (.putfield 65, 3) := by decide +kernel
theorem dX5_takeSee_60 : decode cX5_takeSee 60 = .ok (.iconst 0, 1) := by decide +kernel
theorem dX5_takeSee_61 : decode cX5_takeSee 61 = .ok (.istore_n 1, 1) := by decide +kernel
theorem dX5_takeSee_62 : decode cX5_takeSee 62 = .ok (.iload_n 1, 1) := by decide +kernel
theorem dX5_takeSee_63 : decode cX5_takeSee 63 = .ok (.aload_n 0, 1) := by decide +kernel
theorem dX5_takeSee_64 : decode cX5_takeSee 64 = .ok (.getfield 65, 3) := by decide +kernel
theorem dX5_takeSee_67 : decode cX5_takeSee 67 = .ok (.if_icmp .ge 45, 3) := by decide +kernel
theorem dX5_takeSee_70 : decode cX5_takeSee 70 = .ok (.aload_n 0, 1) := by decide +kernel
theorem dX5_takeSee_71 : decode cX5_takeSee 71 = .ok (.getfield 22, 3) := by decide +kernel
theorem dX5_takeSee_74 : decode cX5_takeSee 74 = .ok (.iload_n 1, 1) := by decide +kernel
theorem dX5_takeSee_75 : decode cX5_takeSee 75 = .ok (.aload_n 0, 1) := by decide +kernel
theorem dX5_takeSee_76 : decode cX5_takeSee 76 = .ok (.getfield 34, 3) := by decide +kernel
theorem dX5_takeSee_79 : decode cX5_takeSee 79 = .ok (.iload_n 1, 1) := by decide +kernel
theorem dX5_takeSee_80 : decode cX5_takeSee 80 = .ok (.iaload, 1) := by decide +kernel
theorem dX5_takeSee_81 : decode cX5_takeSee 81 = .ok (.iastore, 1) := by decide +kernel
theorem dX5_takeSee_82 : decode cX5_takeSee 82 = .ok (.aload_n 0, 1) := by decide +kernel
theorem dX5_takeSee_83 : decode cX5_takeSee 83 = .ok (.getfield 25, 3) := by decide +kernel
theorem dX5_takeSee_86 : decode cX5_takeSee 86 = .ok (.iload_n 1, 1) := by decide +kernel
theorem dX5_takeSee_87 : decode cX5_takeSee 87 = .ok (.aload_n 0, 1) := by decide +kernel
theorem dX5_takeSee_88 : decode cX5_takeSee 88 = .ok (.getfield 37, 3) := by decide +kernel
theorem dX5_takeSee_91 : decode cX5_takeSee 91 = .ok (.iload_n 1, 1) := by decide +kernel
theorem dX5_takeSee_92 : decode cX5_takeSee 92 = .ok (.iaload, 1) := by decide +kernel
theorem dX5_takeSee_93 : decode cX5_takeSee 93 = .ok (.iastore, 1) := by decide +kernel
theorem dX5_takeSee_94 : decode cX5_takeSee 94 = .ok (.aload_n 0, 1) := by decide +kernel
theorem dX5_takeSee_95 : decode cX5_takeSee 95 = .ok (.getfield 28, 3) := by decide +kernel
theorem dX5_takeSee_98 : decode cX5_takeSee 98 = .ok (.iload_n 1, 1) := by decide +kernel
theorem dX5_takeSee_99 : decode cX5_takeSee 99 = .ok (.aload_n 0, 1) := by decide +kernel
theorem dX5_takeSee_100 : decode cX5_takeSee 100 = .ok (.getfield 40, 3) := by decide +kernel
theorem dX5_takeSee_103 : decode cX5_takeSee 103 = .ok (.iload_n 1, 1) := by decide +kernel
theorem dX5_takeSee_104 : decode cX5_takeSee 104 = .ok (.iaload, 1) := by decide +kernel
theorem dX5_takeSee_105 : decode cX5_takeSee 105 = .ok (.iastore, 1) := by decide +kernel
theorem dX5_takeSee_106 : decode cX5_takeSee 106 = .ok (.iinc 1 1, 3) := by decide +kernel
theorem dX5_takeSee_109 : decode cX5_takeSee 109 = .ok (.goto (-47), 3) := by decide +kernel
theorem dX5_takeSee_112 : decode cX5_takeSee 112 = .ok (.aload_n 0, 1) := by decide +kernel
theorem dX5_takeSee_113 : decode cX5_takeSee 113 = .ok (.iconst 0, 1) := by decide +kernel
theorem dX5_takeSee_114 : decode cX5_takeSee 114 = .ok (.putfield 113, 3) := by decide +kernel
theorem dX5_takeSee_117 : decode cX5_takeSee 117 = .ok (.return_, 1) := by decide +kernel
set_option maxRecDepth 20000 in
theorem ggX5_readSee_X5_isSign : GoodIn wsX5_readSee wsX5_isSign := goodIn_r _ [9, 4, 10, 31, 32, 33, 34, 35, 36, 37, 38, 39, 40, 41, 42, 43, 44, 45, 46, 47, 48, 49, 50, 51, 52, 53, 54, 55, 56, 57] (by decide +kernel) (by decide +kernel)
set_option maxRecDepth 20000 in
theorem gX5_readSee_X5_isSign : GoodIn wsX5_readSee (wsV RX5 116 RX5 yX5_isSign wsX5_isSign) := goodIn_app (goodIn_of _ (by decide +kernel)) ggX5_readSee_X5_isSign
set_option maxRecDepth 20000 in
theorem ggX5_readSee_X5_digit : GoodIn wsX5_readSee wsX5_digit := goodIn_r _ [14, 4, 10, 15, 16, 8, 17, 31, 32, 33, 34, 35, 36, 37, 38, 39, 40, 41, 42, 43, 44, 45, 46, 47, 48, 49, 50, 51, 52, 53, 54, 55, 56, 57] (by decide +kernel) (by decide +kernel)
set_option maxRecDepth 20000 in
theorem gX5_readSee_X5_digit : GoodIn wsX5_readSee (wsV RX5 120 RX5 yX5_digit wsX5_digit) := goodIn_app (goodIn_of _ (by decide +kernel)) ggX5_readSee_X5_digit
set_option maxRecDepth 20000 in
theorem ggX5_readSee_X5_readTheDays : GoodIn wsX5_readSee wsX5_readTheDays := goodIn_r _ [21, 22, 23, 11, 12, 13, 8, 14, 4, 10, 15, 16, 17, 31, 32, 33, 34, 35, 36, 37, 38, 39, 40, 41, 42, 43, 44, 45, 46, 47, 48, 49, 50, 51, 52, 53, 54, 55, 56, 57] (by decide +kernel) (by decide +kernel)
set_option maxRecDepth 20000 in
theorem gX5_readSee_X5_readTheDays : GoodIn wsX5_readSee (wsV RX5 124 RX5 yX5_readTheDays wsX5_readTheDays) := goodIn_app (goodIn_of _ (by decide +kernel)) ggX5_readSee_X5_readTheDays
set_option maxRecDepth 20000 in
theorem ggX5_readSee_X5_readPupil : GoodIn wsX5_readSee wsX5_readPupil := goodIn_r _ [27, 4, 10, 28, 3, 29, 30, 11, 12, 13, 8, 14, 15, 16, 17, 31, 32, 33, 34, 35, 36, 37, 38, 39, 40, 41, 42, 43, 44, 45, 46, 47, 48, 49, 50, 51, 52, 53, 54, 55, 56, 57] (by decide +kernel) (by decide +kernel)
set_option maxRecDepth 20000 in
theorem gX5_readSee_X5_readPupil : GoodIn wsX5_readSee (wsV RX5 127 RX5 yX5_readPupil wsX5_readPupil) := goodIn_app (goodIn_of _ (by decide +kernel)) ggX5_readSee_X5_readPupil
theorem dX5_readSee_0 : decode cX5_readSee 0 = .ok (.aload_n 0, 1) := by decide +kernel
theorem dX5_readSee_1 : decode cX5_readSee 1 = .ok (.iload_n 1, 1) := by decide +kernel
theorem dX5_readSee_2 : decode cX5_readSee 2 = .ok (.bipush 99, 2) := by decide +kernel
theorem dX5_readSee_4 : decode cX5_readSee 4 = .ok (.invokevirtual 116, 3) := by decide +kernel
theorem dX5_readSee_7 : decode cX5_readSee 7 = .ok (.ifCond .ne 5, 3) := by decide +kernel
theorem dX5_readSee_10 : decode cX5_readSee 10 = .ok (.iconst 0, 1) := by decide +kernel
theorem dX5_readSee_11 : decode cX5_readSee 11 = .ok (.ireturn, 1) := by decide +kernel
theorem dX5_readSee_12 : decode cX5_readSee 12 = .ok (.aload_n 0, 1) := by decide +kernel
theorem dX5_readSee_13 : decode cX5_readSee 13 = .ok (.aload_n 0, 1) := by decide +kernel
theorem dX5_readSee_14 : decode cX5_readSee 14 = .ok (.iload_n 1, 1) := by decide +kernel
theorem dX5_readSee_15 : decode cX5_readSee 15 = .ok (.iconst 0, 1) := by decide +kernel
theorem dX5_readSee_16 : decode cX5_readSee 16 = .ok (.bipush 9, 2) := by decide +kernel
theorem dX5_readSee_18 : decode cX5_readSee 18 = .ok (.invokevirtual 120, 3) := by decide +kernel
theorem dX5_readSee_21 : decode cX5_readSee 21 = .ok (.putfield 95, 3) := by decide +kernel
theorem dX5_readSee_24 : decode cX5_readSee 24 = .ok (.aload_n 0, 1) := by decide +kernel
theorem dX5_readSee_25 : decode cX5_readSee 25 = .ok (.getfield 95, 3) := by decide +kernel
theorem dX5_readSee_28 : decode cX5_readSee 28 = .ok (.bipush (-9), 2) := by decide +kernel
theorem dX5_readSee_30 : decode cX5_readSee 30 = .ok (.if_icmp .ne 5, 3) := by decide +kernel
theorem dX5_readSee_33 : decode cX5_readSee 33 = .ok (.iconst 0, 1) := by decide +kernel
theorem dX5_readSee_34 : decode cX5_readSee 34 = .ok (.ireturn, 1) := by decide +kernel
theorem dX5_readSee_35 : decode cX5_readSee 35 = .ok (.aload_n 0, 1) := by decide +kernel
theorem dX5_readSee_36 : decode cX5_readSee 36 = .ok (.aload_n 0, 1) := by decide +kernel
theorem dX5_readSee_37 : decode cX5_readSee 37 = .ok (.iload_n 1, 1) := by decide +kernel
theorem dX5_readSee_38 : decode cX5_readSee 38 = .ok (.iconst 1, 1) := by decide +kernel
theorem dX5_readSee_39 : decode cX5_readSee 39 = .ok (.iconst 4, 1) := by decide +kernel
theorem dX5_readSee_40 : decode cX5_readSee 40 = .ok (.invokevirtual 120, 3) := by decide +kernel
theorem dX5_readSee_43 : decode cX5_readSee 43 = .ok (.putfield 101, 3) := by decide +kernel
theorem dX5_readSee_46 : decode cX5_readSee 46 = .ok (.aload_n 0, 1) := by decide +kernel
theorem dX5_readSee_47 : decode cX5_readSee 47 = .ok (.getfield 101, 3) := by decide +kernel
theorem dX5_readSee_50 : decode cX5_readSee 50 = .ok (.bipush (-9), 2) := by decide +kernel
theorem dX5_readSee_52 : decode cX5_readSee 52 = .ok (.if_icmp .eq 21, 3) := by decide +kernel
theorem dX5_readSee_55 : decode cX5_readSee 55 = .ok (.aload_n 0, 1) := by decide +kernel
theorem dX5_readSee_56 : decode cX5_readSee 56 = .ok (.iload_n 1, 1) := by decide +kernel
theorem dX5_readSee_57 : decode cX5_readSee 57 = .ok (.bipush 44, 2) := by decide +kernel
theorem dX5_readSee_59 : decode cX5_readSee 59 = .ok (.invokevirtual 116, 3) := by decide +kernel
theorem dX5_readSee_62 : decode cX5_readSee 62 = .ok (.ifCond .eq 11, 3) := by decide +kernel
theorem dX5_readSee_65 : decode cX5_readSee 65 = .ok (.aload_n 0, 1) := by decide +kernel
theorem dX5_readSee_66 : decode cX5_readSee 66 = .ok (.iload_n 1, 1) := by decide +kernel
theorem dX5_readSee_67 : decode cX5_readSee 67 = .ok (.invokevirtual 124, 3) := by decide +kernel
theorem dX5_readSee_70 : decode cX5_readSee 70 = .ok (.ifCond .ne 5, 3) := by decide +kernel
theorem dX5_readSee_73 : decode cX5_readSee 73 = .ok (.iconst 0, 1) := by decide +kernel
theorem dX5_readSee_74 : decode cX5_readSee 74 = .ok (.ireturn, 1) := by decide +kernel
theorem dX5_readSee_75 : decode cX5_readSee 75 = .ok (.aload_n 0, 1) := by decide +kernel
theorem dX5_readSee_76 : decode cX5_readSee 76 = .ok (.iconst 0, 1) := by decide +kernel
theorem dX5_readSee_77 : decode cX5_readSee 77 = .ok (.putfield 110, 3) := by decide +kernel
theorem dX5_readSee_80 : decode cX5_readSee 80 = .ok (.aload_n 0, 1) := by decide +kernel
theorem dX5_readSee_81 : decode cX5_readSee 81 = .ok (.getfield 110, 3) := by decide +kernel
theorem dX5_readSee_84 : decode cX5_readSee 84 = .ok (.ifCond .eq 19, 3) := by decide +kernel
theorem dX5_readSee_87 : decode cX5_readSee 87 = .ok (.aload_n 0, 1) := by decide +kernel
theorem dX5_readSee_88 : decode cX5_readSee 88 = .ok (.getfield 110, 3) := by decide +kernel
theorem dX5_readSee_91 : decode cX5_readSee 91 = .ok (.iconst 4, 1) := by decide +kernel
theorem dX5_readSee_92 : decode cX5_readSee 92 = .ok (.if_icmp .ge 31, 3) := by decide +kernel
theorem dX5_readSee_95 : decode cX5_readSee 95 = .ok (.aload_n 0, 1) := by decide +kernel
theorem dX5_readSee_96 : decode cX5_readSee 96 = .ok (.getfield 71, 3) := by decide +kernel
theorem dX5_readSee_99 : decode cX5_readSee 99 = .ok (.iload_n 1, 1) := by decide +kernel
theorem dX5_readSee_100 : decode cX5_readSee 100 = .ok (.if_icmp .ge 23, 3) := by decide +kernel
theorem dX5_readSee_103 : decode cX5_readSee 103 = .ok (.aload_n 0, 1) := by decide +kernel
theorem dX5_readSee_104 : decode cX5_readSee 104 = .ok (.iload_n 1, 1) := by decide +kernel
theorem dX5_readSee_105 : decode cX5_readSee 105 = .ok (.bipush 59, 2) := by decide +kernel
theorem dX5_readSee_107 : decode cX5_readSee 107 = .ok (.invokevirtual 116, 3) := by decide +kernel
theorem dX5_readSee_110 : decode cX5_readSee 110 = .ok (.ifCond .eq 11, 3) := by decide +kernel
theorem dX5_readSee_113 : decode cX5_readSee 113 = .ok (.aload_n 0, 1) := by decide +kernel
theorem dX5_readSee_114 : decode cX5_readSee 114 = .ok (.iload_n 1, 1) := by decide +kernel
theorem dX5_readSee_115 : decode cX5_readSee 115 = .ok (.invokevirtual 127, 3) := by decide +kernel
theorem dX5_readSee_118 : decode cX5_readSee 118 = .ok (.ifCond .ne (-38), 3) := by decide +kernel
theorem dX5_readSee_121 : decode cX5_readSee 121 = .ok (.iconst 0, 1) := by decide +kernel
theorem dX5_readSee_122 : decode cX5_readSee 122 = .ok (.ireturn, 1) := by decide +kernel
theorem dX5_readSee_123 : decode cX5_readSee 123 = .ok (.aload_n 0, 1) := by decide +kernel
theorem dX5_readSee_124 : decode cX5_readSee 124 = .ok (.getfield 71, 3) := by decide +kernel
theorem dX5_readSee_127 : decode cX5_readSee 127 = .ok (.iload_n 1, 1) := by decide +kernel
theorem dX5_readSee_128 : decode cX5_readSee 128 = .ok (.if_icmp .ne 7, 3) := by decide +kernel
theorem dX5_readSee_131 : decode cX5_readSee 131 = .ok (.iconst 1, 1) := by decide +kernel
theorem dX5_readSee_132 : decode cX5_readSee 132 = .ok (.goto 4, 3) := by decide +kernel
theorem dX5_readSee_135 : decode cX5_readSee 135 = .ok (.iconst 0, 1) := by decide +kernel
theorem dX5_readSee_136 : decode cX5_readSee 136 = .ok (.ireturn, 1) := by decide +kernel
set_option maxRecDepth 20000 in
theorem ggX5_readTheDays_X5_digit : GoodIn wsX5_readTheDays wsX5_digit := goodIn_r _ [7, 8, 9, 10, 11, 6, 12, 13, 14, 15, 16, 17, 18, 19, 20, 21, 22, 23, 24, 25, 26, 27, 28, 29, 30, 31, 32, 33, 34, 35, 36, 37, 38, 39] (by decide +kernel) (by decide +kernel)
set_option maxRecDepth 20000 in
theorem gX5_readTheDays_X5_digit : GoodIn wsX5_readTheDays (wsV RX5 120 RX5 yX5_digit wsX5_digit) := goodIn_app (goodIn_of _ (by decide +kernel)) ggX5_readTheDays_X5_digit
theorem dX5_readTheDays_0 : decode cX5_readTheDays 0 = .ok (.aload_n 0, 1) := by decide +kernel
theorem dX5_readTheDays_1 : decode cX5_readTheDays 1 = .ok (.iconst 0, 1) := by decide +kernel
theorem dX5_readTheDays_2 : decode cX5_readTheDays 2 = .ok (.putfield 107, 3) := by decide +kernel
theorem dX5_readTheDays_5 : decode cX5_readTheDays 5 = .ok (.aload_n 0, 1) := by decide +kernel
theorem dX5_readTheDays_6 : decode cX5_readTheDays 6 = .ok (.getfield 107, 3) := by decide +kernel
theorem dX5_readTheDays_9 : decode cX5_readTheDays 9 = .ok (.iconst 5, 1) := by decide +kernel
theorem dX5_readTheDays_10 : decode cX5_readTheDays 10 = .ok (.if_icmp .ge 54, 3) := by decide +kernel
theorem dX5_readTheDays_13 : decode cX5_readTheDays 13 = .ok (.aload_n 0, 1) := by decide +kernel
theorem dX5_readTheDays_14 : decode cX5_readTheDays 14 = .ok (.iload_n 1, 1) := by decide +kernel
theorem dX5_readTheDays_15 : decode cX5_readTheDays 15 = .ok (.iconst 0, 1) := by decide +kernel
theorem dX5_readTheDays_16 : decode cX5_readTheDays 16 = .ok (.bipush 9, 2) := by decide +kernel
theorem dX5_readTheDays_18 : decode cX5_readTheDays 18 = .ok (.invokevirtual 120, 3) := by decide +kernel
theorem dX5_readTheDays_21 : decode cX5_readTheDays 21 = .ok (.istore_n 2, 1) := by decide +kernel
theorem dX5_readTheDays_22 : decode cX5_readTheDays 22 = .ok (.iload_n 2, 1) := by decide +kernel
theorem dX5_readTheDays_23 : decode cX5_readTheDays 23 = .ok (.bipush (-9), 2) := by decide +kernel
theorem dX5_readTheDays_25 : decode cX5_readTheDays 25 = .ok (.if_icmp .ne 16, 3) := by decide +kernel
theorem dX5_readTheDays_28 : decode cX5_readTheDays 28 = .ok (.aload_n 0, 1) := by decide +kernel
theorem dX5_readTheDays_29 : decode cX5_readTheDays 29 = .ok (.getfield 107, 3) := by decide +kernel
theorem dX5_readTheDays_32 : decode cX5_readTheDays 32 = .ok (.ifCond .le 7, 3) := by decide +kernel
theorem dX5_readTheDays_35 : decode cX5_readTheDays 35 = .ok (.iconst 1, 1) := by decide +kernel
theorem dX5_readTheDays_36 : decode cX5_readTheDays 36 = .ok (.goto 4, 3) := by decide +kernel
theorem dX5_readTheDays_39 : decode cX5_readTheDays 39 = .ok (.iconst 0, 1) := by decide +kernel
theorem dX5_readTheDays_40 : decode cX5_readTheDays 40 = .ok (.ireturn, 1) := by decide +kernel
theorem dX5_readTheDays_41 : decode cX5_readTheDays 41 = .ok (.aload_n 0, 1) := by decide +kernel
theorem dX5_readTheDays_42 : decode cX5_readTheDays 42 = .ok (.getfield 31, 3) := by decide +kernel
theorem dX5_readTheDays_45 : decode cX5_readTheDays 45 = .ok (.aload_n 0, 1) := by decide +kernel
theorem dX5_readTheDays_46 : decode cX5_readTheDays 46 = .ok (.getfield 107, 3) := by decide +kernel
theorem dX5_readTheDays_49 : decode cX5_readTheDays 49 = .ok (.iload_n 2, 1) := by decide +kernel
theorem dX5_readTheDays_50 : decode cX5_readTheDays 50 = .ok (.iastore, 1) := by decide +kernel
theorem dX5_readTheDays_51 : decode cX5_readTheDays 51 = .ok (.aload_n 0, 1) := by decide +kernel
theorem dX5_readTheDays_52 : decode cX5_readTheDays 52 = .ok (.dup, 1) := by decide +kernel
theorem dX5_readTheDays_53 : decode cX5_readTheDays 53 = .ok (.getfield 107, 3) := by decide +kernel
theorem dX5_readTheDays_56 : decode cX5_readTheDays 56 = .ok (.iconst 1, 1) := by decide +kernel
theorem dX5_readTheDays_57 : decode cX5_readTheDays 57 = .ok (.iadd, 1) := by decide +kernel
theorem dX5_readTheDays_58 : decode cX5_readTheDays 58 = .ok (.putfield 107, 3) := by decide +kernel
theorem dX5_readTheDays_61 : decode cX5_readTheDays 61 = .ok (.goto (-56), 3) := by decide +kernel
theorem dX5_readTheDays_64 : decode cX5_readTheDays 64 = .ok (.iconst 1, 1) := by decide +kernel
theorem dX5_readTheDays_65 : decode cX5_readTheDays 65 = .ok (.ireturn, 1) := by decide +kernel
set_option maxRecDepth 20000 in
theorem ggX5_readPupil_X5_digit : GoodIn wsX5_readPupil wsX5_digit := goodIn_r _ [11, 1, 2, 12, 13, 10, 14, 15, 16, 17, 18, 19, 20, 21, 22, 23, 24, 25, 26, 27, 28, 29, 30, 31, 32, 33, 34, 35, 36, 37, 38, 39, 40, 41] (by decide +kernel) (by decide +kernel)
set_option maxRecDepth 20000 in
theorem gX5_readPupil_X5_digit : GoodIn wsX5_readPupil (wsV RX5 120 RX5 yX5_digit wsX5_digit) := goodIn_app (goodIn_of _ (by decide +kernel)) ggX5_readPupil_X5_digit
theorem dX5_readPupil_0 : decode cX5_readPupil 0 = .ok (.aload_n 0, 1) := by decide +kernel
theorem dX5_readPupil_1 : decode cX5_readPupil 1 = .ok (.getfield 71, 3) := by decide +kernel
theorem dX5_readPupil_4 : decode cX5_readPupil 4 = .ok (.iload_n 1, 1) := by decide +kernel
theorem dX5_readPupil_5 : decode cX5_readPupil 5 = .ok (.if_icmp .ge 15, 3) := by decide +kernel
theorem dX5_readPupil_8 : decode cX5_readPupil 8 = .ok (.aload_n 0, 1) := by decide +kernel
theorem dX5_readPupil_9 : decode cX5_readPupil 9 = .ok (.getfield 16, 3) := by decide +kernel
theorem dX5_readPupil_12 : decode cX5_readPupil 12 = .ok (.aload_n 0, 1) := by decide +kernel
theorem dX5_readPupil_13 : decode cX5_readPupil 13 = .ok (.getfield 71, 3) := by decide +kernel
theorem dX5_readPupil_16 : decode cX5_readPupil 16 = .ok (.iaload, 1) := by decide +kernel
theorem dX5_readPupil_17 : decode cX5_readPupil 17 = .ok (.goto 4, 3) := by decide +kernel
theorem dX5_readPupil_20 : decode cX5_readPupil 20 = .ok (.iconst 0, 1) := by decide +kernel
theorem dX5_readPupil_21 : decode cX5_readPupil 21 = .ok (.istore_n 2, 1) := by decide +kernel
theorem dX5_readPupil_22 : decode cX5_readPupil 22 = .ok (.aload_n 0, 1) := by decide +kernel
theorem dX5_readPupil_23 : decode cX5_readPupil 23 = .ok (.getfield 34, 3) := by decide +kernel
theorem dX5_readPupil_26 : decode cX5_readPupil 26 = .ok (.aload_n 0, 1) := by decide +kernel
theorem dX5_readPupil_27 : decode cX5_readPupil 27 = .ok (.getfield 110, 3) := by decide +kernel
theorem dX5_readPupil_30 : decode cX5_readPupil 30 = .ok (.iload_n 2, 1) := by decide +kernel
theorem dX5_readPupil_31 : decode cX5_readPupil 31 = .ok (.bipush 112, 2) := by decide +kernel
theorem dX5_readPupil_33 : decode cX5_readPupil 33 = .ok (.if_icmp .ne 7, 3) := by decide +kernel
theorem dX5_readPupil_36 : decode cX5_readPupil 36 = .ok (.iconst 0, 1) := by decide +kernel
theorem dX5_readPupil_37 : decode cX5_readPupil 37 = .ok (.goto 25, 3) := by decide +kernel
theorem dX5_readPupil_40 : decode cX5_readPupil 40 = .ok (.iload_n 2, 1) := by decide +kernel
theorem dX5_readPupil_41 : decode cX5_readPupil 41 = .ok (.bipush 100, 2) := by decide +kernel
theorem dX5_readPupil_43 : decode cX5_readPupil 43 = .ok (.if_icmp .ne 7, 3) := by decide +kernel
theorem dX5_readPupil_46 : decode cX5_readPupil 46 = .ok (.iconst 1, 1) := by decide +kernel
theorem dX5_readPupil_47 : decode cX5_readPupil 47 = .ok (.goto 15, 3) := by decide +kernel
theorem dX5_readPupil_50 : decode cX5_readPupil 50 = .ok (.iload_n 2, 1) := by decide +kernel
theorem dX5_readPupil_51 : decode cX5_readPupil 51 = .ok (.bipush 117, 2) := by decide +kernel
theorem dX5_readPupil_53 : decode cX5_readPupil 53 = .ok (.if_icmp .ne 7, 3) := by decide +kernel
theorem dX5_readPupil_56 : decode cX5_readPupil 56 = .ok (.iconst 2, 1) := by decide +kernel
theorem dX5_readPupil_57 : decode cX5_readPupil 57 = .ok (.goto 5, 3) := by decide +kernel
theorem dX5_readPupil_60 : decode cX5_readPupil 60 = .ok (.bipush (-9), 2) := by decide +kernel
theorem dX5_readPupil_62 : decode cX5_readPupil 62 = .ok (.iastore, 1) := by decide +kernel
theorem dX5_readPupil_63 : decode cX5_readPupil 63 = .ok (.aload_n 0, 1) := by decide +kernel
theorem dX5_readPupil_64 : decode cX5_readPupil 64 = .ok (.getfield 34, 3) := by decide +kernel
theorem dX5_readPupil_67 : decode cX5_readPupil 67 = .ok (.aload_n 0, 1) := by decide +kernel
theorem dX5_readPupil_68 : decode cX5_readPupil 68 = .ok (.getfield 110, 3) := by decide +kernel
theorem dX5_readPupil_71 : decode cX5_readPupil 71 = .ok (.iaload, 1) := by decide +kernel
theorem dX5_readPupil_72 : decode cX5_readPupil 72 = .ok (.bipush (-9), 2) := by decide +kernel
theorem dX5_readPupil_74 : decode cX5_readPupil 74 = .ok (.if_icmp .ne 5, 3) := by decide +kernel
theorem dX5_readPupil_77 : decode cX5_readPupil 77 = .ok (.iconst 0, 1) := by decide +kernel
theorem dX5_readPupil_78 : decode cX5_readPupil 78 = .ok (.ireturn, 1) := by decide +kernel
theorem dX5_readPupil_79 : decode cX5_readPupil 79 = .ok (.aload_n 0, 1) := by decide +kernel
theorem dX5_readPupil_80 : decode cX5_readPupil 80 = .ok (.dup, 1) := by decide +kernel
theorem dX5_readPupil_81 : decode cX5_readPupil 81 = .ok (.getfield 71, 3) := by decide +kernel
theorem dX5_readPupil_84 : decode cX5_readPupil 84 = .ok (.iconst 1, 1) := by decide +kernel
theorem dX5_readPupil_85 : decode cX5_readPupil 85 = .ok (.iadd, 1) := by decide +kernel
theorem dX5_readPupil_86 : decode cX5_readPupil 86 = .ok (.putfield 71, 3) := by decide +kernel
theorem dX5_readPupil_89 : decode cX5_readPupil 89 = .ok (.aload_n 0, 1) := by decide +kernel
theorem dX5_readPupil_90 : decode cX5_readPupil 90 = .ok (.getfield 37, 3) := by decide +kernel
theorem dX5_readPupil_93 : decode cX5_readPupil 93 = .ok (.aload_n 0, 1) := by decide +kernel
theorem dX5_readPupil_94 : decode cX5_readPupil 94 = .ok (.getfield 110, 3) := by decide +kernel
theorem dX5_readPupil_97 : decode cX5_readPupil 97 = .ok (.aload_n 0, 1) := by decide +kernel
theorem dX5_readPupil_98 : decode cX5_readPupil 98 = .ok (.iload_n 1, 1) := by decide +kernel
theorem dX5_readPupil_99 : decode cX5_readPupil 99 = .ok (.iconst 0, 1) := by decide +kernel
theorem dX5_readPupil_100 : decode cX5_readPupil 100 = .ok (.bipush 9, 2) := by decide +kernel
theorem dX5_readPupil_102 : decode cX5_readPupil 102 = .ok (.invokevirtual 120, 3) := by decide +kernel
theorem dX5_readPupil_105 : decode cX5_readPupil 105 = .ok (.iastore, 1) := by decide +kernel
theorem dX5_readPupil_106 : decode cX5_readPupil 106 = .ok (.aload_n 0, 1) := by decide +kernel
theorem dX5_readPupil_107 : decode cX5_readPupil 107 = .ok (.getfield 37, 3) := by decide +kernel
theorem dX5_readPupil_110 : decode cX5_readPupil 110 = .ok (.aload_n 0, 1) := by decide +kernel
theorem dX5_readPupil_111 : decode cX5_readPupil 111 = .ok (.getfield 110, 3) := by decide +kernel
theorem dX5_readPupil_114 : decode cX5_readPupil 114 = .ok (.iaload, 1) := by decide +kernel
theorem dX5_readPupil_115 : decode cX5_readPupil 115 = .ok (.bipush (-9), 2) := by decide +kernel
theorem dX5_readPupil_117 : decode cX5_readPupil 117 = .ok (.if_icmp .ne 5, 3) := by decide +kernel
theorem dX5_readPupil_120 : decode cX5_readPupil 120 = .ok (.iconst 0, 1) := by decide +kernel
theorem dX5_readPupil_121 : decode cX5_readPupil 121 = .ok (.ireturn, 1) := by decide +kernel
theorem dX5_readPupil_122 : decode cX5_readPupil 122 = .ok (.aload_n 0, 1) := by decide +kernel
theorem dX5_readPupil_123 : decode cX5_readPupil 123 = .ok (.getfield 40, 3) := by decide +kernel
theorem dX5_readPupil_126 : decode cX5_readPupil 126 = .ok (.aload_n 0, 1) := by decide +kernel
theorem dX5_readPupil_127 : decode cX5_readPupil 127 = .ok (.getfield 110, 3) := by decide +kernel
theorem dX5_readPupil_130 : decode cX5_readPupil 130 = .ok (.aload_n 0, 1) := by decide +kernel
theorem dX5_readPupil_131 : decode cX5_readPupil 131 = .ok (.iload_n 1, 1) := by decide +kernel
theorem dX5_readPupil_132 : decode cX5_readPupil 132 = .ok (.iconst 0, 1) := by decide +kernel
theorem dX5_readPupil_133 : decode cX5_readPupil 133 = .ok (.bipush 9, 2) := by decide +kernel
theorem dX5_readPupil_135 : decode cX5_readPupil 135 = .ok (.invokevirtual 120, 3) := by decide +kernel
theorem dX5_readPupil_138 : decode cX5_readPupil 138 = .ok (.iastore, 1) := by decide +kernel
theorem dX5_readPupil_139 : decode cX5_readPupil 139 = .ok (.aload_n 0, 1) := by decide +kernel
theorem dX5_readPupil_140 : decode cX5_readPupil 140 = .ok (.dup, 1) := by decide +kernel
theorem dX5_readPupil_141 : decode cX5_readPupil 141 = .ok (.getfield 110, 3) := by decide +kernel
theorem dX5_readPupil_144 : decode cX5_readPupil 144 = .ok (.iconst 1, 1) := by decide +kernel
theorem dX5_readPupil_145 : decode cX5_readPupil 145 = .ok (.iadd, 1) := by decide +kernel
theorem dX5_readPupil_146 : decode cX5_readPupil 146 = .ok (.putfield 110, 3) := by decide +kernel
theorem dX5_readPupil_149 : decode cX5_readPupil 149 = .ok (.aload_n 0, 1) := by decide +kernel
theorem dX5_readPupil_150 : decode cX5_readPupil 150 = .ok (.getfield 40, 3) := by decide +kernel
theorem dX5_readPupil_153 : decode cX5_readPupil 153 = .ok (.aload_n 0, 1) := by decide +kernel
theorem dX5_readPupil_154 : decode cX5_readPupil 154 = .ok (.getfield 110, 3) := by decide +kernel
theorem dX5_readPupil_157 : decode cX5_readPupil 157 = .ok (.iconst 1, 1) := by decide +kernel
theorem dX5_readPupil_158 : decode cX5_readPupil 158 = .ok (.isub, 1) := by decide +kernel
theorem dX5_readPupil_159 : decode cX5_readPupil 159 = .ok (.iaload, 1) := by decide +kernel
theorem dX5_readPupil_160 : decode cX5_readPupil 160 = .ok (.bipush (-9), 2) := by decide +kernel
theorem dX5_readPupil_162 : decode cX5_readPupil 162 = .ok (.if_icmp .eq 7, 3) := by decide +kernel
theorem dX5_readPupil_165 : decode cX5_readPupil 165 = .ok (.iconst 1, 1) := by decide +kernel
theorem dX5_readPupil_166 : decode cX5_readPupil 166 = .ok (.goto 4, 3) := by decide +kernel
theorem dX5_readPupil_169 : decode cX5_readPupil 169 = .ok (.iconst 0, 1) := by decide +kernel
theorem dX5_readPupil_170 : decode cX5_readPupil 170 = .ok (.ireturn, 1) := by decide +kernel
theorem dX5_hoursOf_0 : decode cX5_hoursOf 0 = .ok (.aload_n 0, 1) := by decide +kernel
theorem dX5_hoursOf_1 : decode cX5_hoursOf 1 = .ok (.getfield 22, 3) := by decide +kernel
theorem dX5_hoursOf_4 : decode cX5_hoursOf 4 = .ok (.iload_n 1, 1) := by decide +kernel
theorem dX5_hoursOf_5 : decode cX5_hoursOf 5 = .ok (.iaload, 1) := by decide +kernel
theorem dX5_hoursOf_6 : decode cX5_hoursOf 6 = .ok (.iconst 1, 1) := by decide +kernel
theorem dX5_hoursOf_7 : decode cX5_hoursOf 7 = .ok (.if_icmp .ne 25, 3) := by decide +kernel
theorem dX5_hoursOf_10 : decode cX5_hoursOf 10 = .ok (.aload_n 0, 1) := by decide +kernel
theorem dX5_hoursOf_11 : decode cX5_hoursOf 11 = .ok (.getfield 28, 3) := by decide +kernel
theorem dX5_hoursOf_14 : decode cX5_hoursOf 14 = .ok (.iload_n 1, 1) := by decide +kernel
theorem dX5_hoursOf_15 : decode cX5_hoursOf 15 = .ok (.iaload, 1) := by decide +kernel
theorem dX5_hoursOf_16 : decode cX5_hoursOf 16 = .ok (.ifCond .le 14, 3) := by decide +kernel
theorem dX5_hoursOf_19 : decode cX5_hoursOf 19 = .ok (.aload_n 0, 1) := by decide +kernel
theorem dX5_hoursOf_20 : decode cX5_hoursOf 20 = .ok (.getfield 28, 3) := by decide +kernel
theorem dX5_hoursOf_23 : decode cX5_hoursOf 23 = .ok (.iload_n 1, 1) := by decide +kernel
theorem dX5_hoursOf_24 : decode cX5_hoursOf 24 = .ok (.iaload, 1) := by decide +kernel
theorem dX5_hoursOf_25 : decode cX5_hoursOf 25 = .ok (.iconst 1, 1) := by decide +kernel
theorem dX5_hoursOf_26 : decode cX5_hoursOf 26 = .ok (.isub, 1) := by decide +kernel
theorem dX5_hoursOf_27 : decode cX5_hoursOf 27 = .ok (.goto 4, 3) := by decide +kernel
theorem dX5_hoursOf_30 : decode cX5_hoursOf 30 = .ok (.iconst 0, 1) := by decide +kernel
theorem dX5_hoursOf_31 : decode cX5_hoursOf 31 = .ok (.ireturn, 1) := by decide +kernel
theorem dX5_hoursOf_32 : decode cX5_hoursOf 32 = .ok (.aload_n 0, 1) := by decide +kernel
theorem dX5_hoursOf_33 : decode cX5_hoursOf 33 = .ok (.getfield 22, 3) := by decide +kernel
theorem dX5_hoursOf_36 : decode cX5_hoursOf 36 = .ok (.iload_n 1, 1) := by decide +kernel
theorem dX5_hoursOf_37 : decode cX5_hoursOf 37 = .ok (.iaload, 1) := by decide +kernel
theorem dX5_hoursOf_38 : decode cX5_hoursOf 38 = .ok (.ifCond .ne 12, 3) := by decide +kernel
theorem dX5_hoursOf_41 : decode cX5_hoursOf 41 = .ok (.aload_n 0, 1) := by decide +kernel
theorem dX5_hoursOf_42 : decode cX5_hoursOf 42 = .ok (.getfield 28, 3) := by decide +kernel
theorem dX5_hoursOf_45 : decode cX5_hoursOf 45 = .ok (.iload_n 1, 1) := by decide +kernel
theorem dX5_hoursOf_46 : decode cX5_hoursOf 46 = .ok (.iaload, 1) := by decide +kernel
theorem dX5_hoursOf_47 : decode cX5_hoursOf 47 = .ok (.goto 11, 3) := by decide +kernel
theorem dX5_hoursOf_50 : decode cX5_hoursOf 50 = .ok (.aload_n 0, 1) := by decide +kernel
theorem dX5_hoursOf_51 : decode cX5_hoursOf 51 = .ok (.getfield 28, 3) := by decide +kernel
theorem dX5_hoursOf_54 : decode cX5_hoursOf 54 = .ok (.iload_n 1, 1) := by decide +kernel
theorem dX5_hoursOf_55 : decode cX5_hoursOf 55 = .ok (.iaload, 1) := by decide +kernel
theorem dX5_hoursOf_56 : decode cX5_hoursOf 56 = .ok (.iconst 2, 1) := by decide +kernel
theorem dX5_hoursOf_57 : decode cX5_hoursOf 57 = .ok (.idiv, 1) := by decide +kernel
theorem dX5_hoursOf_58 : decode cX5_hoursOf 58 = .ok (.ireturn, 1) := by decide +kernel
set_option maxRecDepth 20000 in
theorem ggX5_ofPupil_X5_isPupil : GoodIn wsX5_ofPupil wsX5_isPupil := goodIn_r _ [8, 9, 14, 15, 16, 17, 18, 19, 20, 21, 22, 23, 24, 25, 26, 27, 28, 29, 30, 31, 32, 33, 34, 35, 36, 37, 38, 39, 40] (by decide +kernel) (by decide +kernel)
set_option maxRecDepth 20000 in
theorem gX5_ofPupil_X5_isPupil : GoodIn wsX5_ofPupil (wsV RX5 130 RX5 yX5_isPupil wsX5_isPupil) := goodIn_app (goodIn_of _ (by decide +kernel)) ggX5_ofPupil_X5_isPupil
set_option maxRecDepth 20000 in
theorem ggX5_ofPupil_X5_hoursOf : GoodIn wsX5_ofPupil wsX5_hoursOf := goodIn_r _ [13, 1, 3, 14, 15, 16, 17, 18, 19, 20, 21, 22, 23, 24, 25, 26, 27, 28, 29, 30, 31, 32, 33, 34, 35, 36, 37, 38, 39, 40] (by decide +kernel) (by decide +kernel)
set_option maxRecDepth 20000 in
theorem gX5_ofPupil_X5_hoursOf : GoodIn wsX5_ofPupil (wsV RX5 133 RX5 yX5_hoursOf wsX5_hoursOf) := goodIn_app (goodIn_of _ (by decide +kernel)) ggX5_ofPupil_X5_hoursOf
theorem dX5_ofPupil_0 : decode cX5_ofPupil 0 = .ok (.aload_n 0, 1) := by decide +kernel
theorem dX5_ofPupil_1 : decode cX5_ofPupil 1 = .ok (.iload_n 1, 1) := by decide +kernel
theorem dX5_ofPupil_2 : decode cX5_ofPupil 2 = .ok (.invokevirtual 130, 3) := by decide +kernel
theorem dX5_ofPupil_5 : decode cX5_ofPupil 5 = .ok (.ifCond .ne 5, 3) := by decide +kernel
theorem dX5_ofPupil_8 : decode cX5_ofPupil 8 = .ok (.iconst (-1), 1) := by decide +kernel
theorem dX5_ofPupil_9 : decode cX5_ofPupil 9 = .ok (.ireturn, 1) := by decide +kernel
theorem dX5_ofPupil_10 : decode cX5_ofPupil 10 = .ok (.iload_n 2, 1) := by decide +kernel
theorem dX5_ofPupil_11 : decode cX5_ofPupil 11 = .ok (.tableswitch 56 0 3 #[29, 36, 43, 50], 29) := by decide +kernel
theorem dX5_ofPupil_40 : decode cX5_ofPupil 40 = .ok (.aload_n 0, 1) := by decide +kernel
theorem dX5_ofPupil_41 : decode cX5_ofPupil 41 = .ok (.getfield 22, 3) := by decide +kernel
theorem dX5_ofPupil_44 : decode cX5_ofPupil 44 = .ok (.iload_n 1, 1) := by decide +kernel
theorem dX5_ofPupil_45 : decode cX5_ofPupil 45 = .ok (.iaload, 1) := by decide +kernel
theorem dX5_ofPupil_46 : decode cX5_ofPupil 46 = .ok (.ireturn, 1) := by decide +kernel
theorem dX5_ofPupil_47 : decode cX5_ofPupil 47 = .ok (.aload_n 0, 1) := by decide +kernel
theorem dX5_ofPupil_48 : decode cX5_ofPupil 48 = .ok (.getfield 25, 3) := by decide +kernel
theorem dX5_ofPupil_51 : decode cX5_ofPupil 51 = .ok (.iload_n 1, 1) := by decide +kernel
theorem dX5_ofPupil_52 : decode cX5_ofPupil 52 = .ok (.iaload, 1) := by decide +kernel
theorem dX5_ofPupil_53 : decode cX5_ofPupil 53 = .ok (.ireturn, 1) := by decide +kernel
theorem dX5_ofPupil_54 : decode cX5_ofPupil 54 = .ok (.aload_n 0, 1) := by decide +kernel
theorem dX5_ofPupil_55 : decode cX5_ofPupil 55 = .ok (.getfield 28, 3) := by decide +kernel
theorem dX5_ofPupil_58 : decode cX5_ofPupil 58 = .ok (.iload_n 1, 1) := by decide +kernel
theorem dX5_ofPupil_59 : decode cX5_ofPupil 59 = .ok (.iaload, 1) := by decide +kernel
theorem dX5_ofPupil_60 : decode cX5_ofPupil 60 = .ok (.ireturn, 1) := by decide +kernel
theorem dX5_ofPupil_61 : decode cX5_ofPupil 61 = .ok (.aload_n 0, 1) := by decide +kernel
theorem dX5_ofPupil_62 : decode cX5_ofPupil 62 = .ok (.iload_n 1, 1) := by decide +kernel
theorem dX5_ofPupil_63 : decode cX5_ofPupil 63 = .ok (.invokevirtual 133, 3) := by decide +kernel
theorem dX5_ofPupil_66 : decode cX5_ofPupil 66 = .ok (.ireturn, 1) := by decide +kernel
theorem dX5_ofPupil_67 : decode cX5_ofPupil 67 = .ok (.bipush (-2), 2) := by decide +kernel
theorem dX5_ofPupil_69 : decode cX5_ofPupil 69 = .ok (.ireturn, 1) := by decide +kernel
set_option maxRecDepth 20000 in
theorem ggX5_hard_X5_isDay : GoodIn wsX5_hard wsX5_isDay := goodIn_r _ [6, 7, 8, 9, 10, 11, 12, 13, 14, 15, 16, 17, 18, 19, 20, 21, 22, 23, 24, 25, 26, 27, 28, 29, 30, 31, 32, 33, 34] (by decide +kernel) (by decide +kernel)
set_option maxRecDepth 20000 in
theorem gX5_hard_X5_isDay : GoodIn wsX5_hard (wsV RX5 136 RX5 yX5_isDay wsX5_isDay) := goodIn_app (goodIn_of _ (by decide +kernel)) ggX5_hard_X5_isDay
theorem dX5_hard_0 : decode cX5_hard 0 = .ok (.aload_n 0, 1) := by decide +kernel
theorem dX5_hard_1 : decode cX5_hard 1 = .ok (.iload_n 1, 1) := by decide +kernel
theorem dX5_hard_2 : decode cX5_hard 2 = .ok (.invokevirtual 136, 3) := by decide +kernel
theorem dX5_hard_5 : decode cX5_hard 5 = .ok (.ifCond .eq 12, 3) := by decide +kernel
theorem dX5_hard_8 : decode cX5_hard 8 = .ok (.aload_n 0, 1) := by decide +kernel
theorem dX5_hard_9 : decode cX5_hard 9 = .ok (.getfield 19, 3) := by decide +kernel
theorem dX5_hard_12 : decode cX5_hard 12 = .ok (.iload_n 1, 1) := by decide +kernel
theorem dX5_hard_13 : decode cX5_hard 13 = .ok (.iaload, 1) := by decide +kernel
theorem dX5_hard_14 : decode cX5_hard 14 = .ok (.goto 4, 3) := by decide +kernel
theorem dX5_hard_17 : decode cX5_hard 17 = .ok (.iconst (-1), 1) := by decide +kernel
theorem dX5_hard_18 : decode cX5_hard 18 = .ok (.ireturn, 1) := by decide +kernel
set_option maxRecDepth 20000 in
theorem ggX5_ask_X5_isDay : GoodIn wsX5_ask wsX5_isDay := goodIn_r _ [6, 7, 14, 15, 16, 17, 18, 19, 20, 21, 22, 23, 24, 25, 26, 27, 28, 29, 30, 31, 32, 33, 34, 35, 36, 37, 38, 39, 40] (by decide +kernel) (by decide +kernel)
set_option maxRecDepth 20000 in
theorem gX5_ask_X5_isDay : GoodIn wsX5_ask (wsV RX5 136 RX5 yX5_isDay wsX5_isDay) := goodIn_app (goodIn_of _ (by decide +kernel)) ggX5_ask_X5_isDay
set_option maxRecDepth 20000 in
theorem ggX5_ask_X5_isDigit : GoodIn wsX5_ask wsX5_isDigit := goodIn_r _ [10, 11, 12, 5, 13] (by decide +kernel) (by decide +kernel)
set_option maxRecDepth 20000 in
theorem gX5_ask_X5_isDigit : GoodIn wsX5_ask (va_wsS RX5 139 yX5_isDigit wsX5_isDigit) := goodIn_app (goodIn_of _ (by decide +kernel)) ggX5_ask_X5_isDigit
theorem dX5_ask_0 : decode cX5_ask 0 = .ok (.aload_n 0, 1) := by decide +kernel
theorem dX5_ask_1 : decode cX5_ask 1 = .ok (.iload_n 1, 1) := by decide +kernel
theorem dX5_ask_2 : decode cX5_ask 2 = .ok (.invokevirtual 136, 3) := by decide +kernel
theorem dX5_ask_5 : decode cX5_ask 5 = .ok (.ifCond .ne 5, 3) := by decide +kernel
theorem dX5_ask_8 : decode cX5_ask 8 = .ok (.iconst (-1), 1) := by decide +kernel
theorem dX5_ask_9 : decode cX5_ask 9 = .ok (.ireturn, 1) := by decide +kernel
theorem dX5_ask_10 : decode cX5_ask 10 = .ok (.iload_n 2, 1) := by decide +kernel
theorem dX5_ask_11 : decode cX5_ask 11 = .ok (.invokestatic 139, 3) := by decide +kernel
theorem dX5_ask_14 : decode cX5_ask 14 = .ok (.ifCond .ne 6, 3) := by decide +kernel
theorem dX5_ask_17 : decode cX5_ask 17 = .ok (.bipush (-2), 2) := by decide +kernel
theorem dX5_ask_19 : decode cX5_ask 19 = .ok (.ireturn, 1) := by decide +kernel
theorem dX5_ask_20 : decode cX5_ask 20 = .ok (.aload_n 0, 1) := by decide +kernel
theorem dX5_ask_21 : decode cX5_ask 21 = .ok (.getfield 19, 3) := by decide +kernel
theorem dX5_ask_24 : decode cX5_ask 24 = .ok (.iload_n 1, 1) := by decide +kernel
theorem dX5_ask_25 : decode cX5_ask 25 = .ok (.iaload, 1) := by decide +kernel
theorem dX5_ask_26 : decode cX5_ask 26 = .ok (.istore_n 3, 1) := by decide +kernel
theorem dX5_ask_27 : decode cX5_ask 27 = .ok (.aload_n 0, 1) := by decide +kernel
theorem dX5_ask_28 : decode cX5_ask 28 = .ok (.getfield 19, 3) := by decide +kernel
theorem dX5_ask_31 : decode cX5_ask 31 = .ok (.iload_n 1, 1) := by decide +kernel
theorem dX5_ask_32 : decode cX5_ask 32 = .ok (.iload_n 2, 1) := by decide +kernel
theorem dX5_ask_33 : decode cX5_ask 33 = .ok (.iastore, 1) := by decide +kernel
theorem dX5_ask_34 : decode cX5_ask 34 = .ok (.iload_n 3, 1) := by decide +kernel
theorem dX5_ask_35 : decode cX5_ask 35 = .ok (.ireturn, 1) := by decide +kernel
set_option maxRecDepth 20000 in
theorem ggX5_teach_X5_isPupil : GoodIn wsX5_teach wsX5_isPupil := goodIn_r _ [6, 7, 14, 15, 16, 17, 18, 19, 20, 21, 22, 23, 24, 25, 26, 27, 28, 29, 30, 31, 32, 33, 34, 35, 36, 37, 38, 39, 40] (by decide +kernel) (by decide +kernel)
set_option maxRecDepth 20000 in
theorem gX5_teach_X5_isPupil : GoodIn wsX5_teach (wsV RX5 130 RX5 yX5_isPupil wsX5_isPupil) := goodIn_app (goodIn_of _ (by decide +kernel)) ggX5_teach_X5_isPupil
set_option maxRecDepth 20000 in
theorem ggX5_teach_X5_isDigit : GoodIn wsX5_teach wsX5_isDigit := goodIn_r _ [10, 11, 12, 5, 13] (by decide +kernel) (by decide +kernel)
set_option maxRecDepth 20000 in
theorem gX5_teach_X5_isDigit : GoodIn wsX5_teach (va_wsS RX5 139 yX5_isDigit wsX5_isDigit) := goodIn_app (goodIn_of _ (by decide +kernel)) ggX5_teach_X5_isDigit
theorem dX5_teach_0 : decode cX5_teach 0 = .ok (.aload_n 0, 1) := by decide +kernel
theorem dX5_teach_1 : decode cX5_teach 1 = .ok (.iload_n 1, 1) := by decide +kernel
theorem dX5_teach_2 : decode cX5_teach 2 = .ok (.invokevirtual 130, 3) := by decide +kernel
theorem dX5_teach_5 : decode cX5_teach 5 = .ok (.ifCond .ne 5, 3) := by decide +kernel
theorem dX5_teach_8 : decode cX5_teach 8 = .ok (.iconst (-1), 1) := by decide +kernel
theorem dX5_teach_9 : decode cX5_teach 9 = .ok (.ireturn, 1) := by decide +kernel
theorem dX5_teach_10 : decode cX5_teach 10 = .ok (.iload_n 2, 1) := by decide +kernel
theorem dX5_teach_11 : decode cX5_teach 11 = .ok (.invokestatic 139, 3) := by decide +kernel
theorem dX5_teach_14 : decode cX5_teach 14 = .ok (.ifCond .ne 6, 3) := by decide +kernel
theorem dX5_teach_17 : decode cX5_teach 17 = .ok (.bipush (-2), 2) := by decide +kernel
theorem dX5_teach_19 : decode cX5_teach 19 = .ok (.ireturn, 1) := by decide +kernel
theorem dX5_teach_20 : decode cX5_teach 20 = .ok (.aload_n 0, 1) := by decide +kernel
theorem dX5_teach_21 : decode cX5_teach 21 = .ok (.getfield 25, 3) := by decide +kernel
theorem dX5_teach_24 : decode cX5_teach 24 = .ok (.iload_n 1, 1) := by decide +kernel
theorem dX5_teach_25 : decode cX5_teach 25 = .ok (.iaload, 1) := by decide +kernel
theorem dX5_teach_26 : decode cX5_teach 26 = .ok (.istore_n 3, 1) := by decide +kernel
theorem dX5_teach_27 : decode cX5_teach 27 = .ok (.aload_n 0, 1) := by decide +kernel
theorem dX5_teach_28 : decode cX5_teach 28 = .ok (.getfield 25, 3) := by decide +kernel
theorem dX5_teach_31 : decode cX5_teach 31 = .ok (.iload_n 1, 1) := by decide +kernel
theorem dX5_teach_32 : decode cX5_teach 32 = .ok (.iload_n 2, 1) := by decide +kernel
theorem dX5_teach_33 : decode cX5_teach 33 = .ok (.iastore, 1) := by decide +kernel
theorem dX5_teach_34 : decode cX5_teach 34 = .ok (.iload_n 3, 1) := by decide +kernel
theorem dX5_teach_35 : decode cX5_teach 35 = .ok (.ireturn, 1) := by decide +kernel
set_option maxRecDepth 20000 in
theorem ggX5_doubt_X5_isDigit : GoodIn wsX5_doubt wsX5_isDigit := goodIn_r _ [6, 7, 8, 5, 9] (by decide +kernel) (by decide +kernel)
set_option maxRecDepth 20000 in
theorem gX5_doubt_X5_isDigit : GoodIn wsX5_doubt (va_wsS RX5 139 yX5_isDigit wsX5_isDigit) := goodIn_app (goodIn_of _ (by decide +kernel)) ggX5_doubt_X5_isDigit
theorem dX5_doubt_0 : decode cX5_doubt 0 = .ok (.iload_n 1, 1) := by decide +kernel
theorem dX5_doubt_1 : decode cX5_doubt 1 = .ok (.invokestatic 139, 3) := by decide +kernel
theorem dX5_doubt_4 : decode cX5_doubt 4 = .ok (.ifCond .ne 6, 3) := by decide +kernel
theorem dX5_doubt_7 : decode cX5_doubt 7 = .ok (.bipush (-2), 2) := by decide +kernel
theorem dX5_doubt_9 : decode cX5_doubt 9 = .ok (.ireturn, 1) := by decide +kernel
theorem dX5_doubt_10 : decode cX5_doubt 10 = .ok (.aload_n 0, 1) := by decide +kernel
theorem dX5_doubt_11 : decode cX5_doubt 11 = .ok (.getfield 68, 3) := by decide +kernel
theorem dX5_doubt_14 : decode cX5_doubt 14 = .ok (.ifCond .ne 6, 3) := by decide +kernel
theorem dX5_doubt_17 : decode cX5_doubt 17 = .ok (.bipush (-3), 2) := by decide +kernel
theorem dX5_doubt_19 : decode cX5_doubt 19 = .ok (.ireturn, 1) := by decide +kernel
theorem dX5_doubt_20 : decode cX5_doubt 20 = .ok (.aload_n 0, 1) := by decide +kernel
theorem dX5_doubt_21 : decode cX5_doubt 21 = .ok (.getfield 98, 3) := by decide +kernel
theorem dX5_doubt_24 : decode cX5_doubt 24 = .ok (.istore_n 2, 1) := by decide +kernel
theorem dX5_doubt_25 : decode cX5_doubt 25 = .ok (.aload_n 0, 1) := by decide +kernel
theorem dX5_doubt_26 : decode cX5_doubt 26 = .ok (.iload_n 1, 1) := by decide +kernel
theorem dX5_doubt_27 : decode cX5_doubt 27 = .ok (.putfield 98, 3) := by decide +kernel
theorem dX5_doubt_30 : decode cX5_doubt 30 = .ok (.iload_n 2, 1) := by decide +kernel
theorem dX5_doubt_31 : decode cX5_doubt 31 = .ok (.ireturn, 1) := by decide +kernel
set_option maxRecDepth 20000 in
theorem ggX5_build_X5_within : GoodIn wsX5_build wsX5_within := goodIn_r _ [6] (by decide +kernel) (by decide +kernel)
set_option maxRecDepth 20000 in
theorem gX5_build_X5_within : GoodIn wsX5_build (va_wsS RX5 61 yX5_within wsX5_within) := goodIn_app (goodIn_of _ (by decide +kernel)) ggX5_build_X5_within
theorem dX5_build_0 : decode cX5_build 0 = .ok (.iload_n 1, 1) := by decide +kernel
theorem dX5_build_1 : decode cX5_build 1 = .ok (.iconst 1, 1) := by decide +kernel
theorem dX5_build_2 : decode cX5_build 2 = .ok (.iconst 4, 1) := by decide +kernel
theorem dX5_build_3 : decode cX5_build 3 = .ok (.invokestatic 61, 3) := by decide +kernel
theorem dX5_build_6 : decode cX5_build 6 = .ok (.ifCond .ne 6, 3) := by decide +kernel
theorem dX5_build_9 : decode cX5_build 9 = .ok (.bipush (-2), 2) := by decide +kernel
theorem dX5_build_11 : decode cX5_build 11 = .ok (.ireturn, 1) := by decide +kernel
theorem dX5_build_12 : decode cX5_build 12 = .ok (.aload_n 0, 1) := by decide +kernel
theorem dX5_build_13 : decode cX5_build 13 = .ok (.getfield 68, 3) := by decide +kernel
theorem dX5_build_16 : decode cX5_build 16 = .ok (.ifCond .ne 6, 3) := by decide +kernel
theorem dX5_build_19 : decode cX5_build 19 = .ok (.bipush (-3), 2) := by decide +kernel
theorem dX5_build_21 : decode cX5_build 21 = .ok (.ireturn, 1) := by decide +kernel
theorem dX5_build_22 : decode cX5_build 22 = .ok (.aload_n 0, 1) := by decide +kernel
theorem dX5_build_23 : decode cX5_build 23 = .ok (.getfield 104, 3) := by decide +kernel
theorem dX5_build_26 : decode cX5_build 26 = .ok (.istore_n 2, 1) := by decide +kernel
theorem dX5_build_27 : decode cX5_build 27 = .ok (.aload_n 0, 1) := by decide +kernel
theorem dX5_build_28 : decode cX5_build 28 = .ok (.iload_n 1, 1) := by decide +kernel
theorem dX5_build_29 : decode cX5_build 29 = .ok (.putfield 104, 3) := by decide +kernel
theorem dX5_build_32 : decode cX5_build 32 = .ok (.iload_n 2, 1) := by decide +kernel
theorem dX5_build_33 : decode cX5_build 33 = .ok (.ireturn, 1) := by decide +kernel
theorem dX5_nobody_0 : decode cX5_nobody 0 = .ok (.iconst 0, 1) := by decide +kernel
theorem dX5_nobody_1 : decode cX5_nobody 1 = .ok (.istore_n 1, 1) := by decide +kernel
theorem dX5_nobody_2 : decode cX5_nobody 2 = .ok (.iload_n 1, 1) := by decide +kernel
theorem dX5_nobody_3 : decode cX5_nobody 3 = .ok (.iconst 4, 1) := by decide +kernel
theorem dX5_nobody_4 : decode cX5_nobody 4 = .ok (.if_icmp .ge 16, 3) := by decide +kernel
theorem dX5_nobody_7 : decode cX5_nobody 7 = .ok (.aload_n 0, 1) := by decide +kernel
theorem dX5_nobody_8 : decode cX5_nobody 8 = .ok (.getfield 43, 3) := by decide +kernel
theorem dX5_nobody_11 : decode cX5_nobody 11 = .ok (.iload_n 1, 1) := by decide +kernel
theorem dX5_nobody_12 : decode cX5_nobody 12 = .ok (.iconst 0, 1) := by decide +kernel
theorem dX5_nobody_13 : decode cX5_nobody 13 = .ok (.iastore, 1) := by decide +kernel
theorem dX5_nobody_14 : decode cX5_nobody 14 = .ok (.iinc 1 1, 3) := by decide +kernel
theorem dX5_nobody_17 : decode cX5_nobody 17 = .ok (.goto (-15), 3) := by decide +kernel
theorem dX5_nobody_20 : decode cX5_nobody 20 = .ok (.return_, 1) := by decide +kernel
theorem dX5_isWould_0 : decode cX5_isWould 0 = .ok (.aload_n 0, 1) := by decide +kernel
theorem dX5_isWould_1 : decode cX5_isWould 1 = .ok (.getfield 25, 3) := by decide +kernel
theorem dX5_isWould_4 : decode cX5_isWould 4 = .ok (.iload_n 1, 1) := by decide +kernel
theorem dX5_isWould_5 : decode cX5_isWould 5 = .ok (.iaload, 1) := by decide +kernel
theorem dX5_isWould_6 : decode cX5_isWould 6 = .ok (.aload_n 0, 1) := by decide +kernel
theorem dX5_isWould_7 : decode cX5_isWould 7 = .ok (.getfield 19, 3) := by decide +kernel
theorem dX5_isWould_10 : decode cX5_isWould 10 = .ok (.iload_n 2, 1) := by decide +kernel
theorem dX5_isWould_11 : decode cX5_isWould 11 = .ok (.iaload, 1) := by decide +kernel
theorem dX5_isWould_12 : decode cX5_isWould 12 = .ok (.isub, 1) := by decide +kernel
theorem dX5_isWould_13 : decode cX5_isWould 13 = .ok (.istore 4, 2) := by decide +kernel
theorem dX5_isWould_15 : decode cX5_isWould 15 = .ok (.iload 4, 2) := by decide +kernel
theorem dX5_isWould_17 : decode cX5_isWould 17 = .ok (.ifCond .lt 16, 3) := by decide +kernel
theorem dX5_isWould_20 : decode cX5_isWould 20 = .ok (.iload_n 3, 1) := by decide +kernel
theorem dX5_isWould_21 : decode cX5_isWould 21 = .ok (.ifCond .eq 16, 3) := by decide +kernel
theorem dX5_isWould_24 : decode cX5_isWould 24 = .ok (.iload 4, 2) := by decide +kernel
theorem dX5_isWould_26 : decode cX5_isWould 26 = .ok (.aload_n 0, 1) := by decide +kernel
theorem dX5_isWould_27 : decode cX5_isWould 27 = .ok (.getfield 98, 3) := by decide +kernel
theorem dX5_isWould_30 : decode cX5_isWould 30 = .ok (.if_icmp .ge 7, 3) := by decide +kernel
theorem dX5_isWould_33 : decode cX5_isWould 33 = .ok (.iconst 1, 1) := by decide +kernel
theorem dX5_isWould_34 : decode cX5_isWould 34 = .ok (.goto 4, 3) := by decide +kernel
theorem dX5_isWould_37 : decode cX5_isWould 37 = .ok (.iconst 0, 1) := by decide +kernel
theorem dX5_isWould_38 : decode cX5_isWould 38 = .ok (.ireturn, 1) := by decide +kernel
set_option maxRecDepth 20000 in
theorem ggX5_wouldNow_X5_isWould : GoodIn wsX5_wouldNow wsX5_isWould := goodIn_r _ [6, 7, 8, 9, 10, 11, 12, 13, 14, 15, 16, 17, 18, 19, 20, 21, 22, 23, 24, 25, 26, 27, 28, 29, 30, 31, 32, 33, 34, 35, 36] (by decide +kernel) (by decide +kernel)
set_option maxRecDepth 20000 in
theorem gX5_wouldNow_X5_isWould : GoodIn wsX5_wouldNow (wsV RX5 142 RX5 yX5_isWould wsX5_isWould) := goodIn_app (goodIn_of _ (by decide +kernel)) ggX5_wouldNow_X5_isWould
theorem dX5_wouldNow_0 : decode cX5_wouldNow 0 = .ok (.aload_n 0, 1) := by decide +kernel
theorem dX5_wouldNow_1 : decode cX5_wouldNow 1 = .ok (.iload_n 1, 1) := by decide +kernel
theorem dX5_wouldNow_2 : decode cX5_wouldNow 2 = .ok (.iload_n 2, 1) := by decide +kernel
theorem dX5_wouldNow_3 : decode cX5_wouldNow 3 = .ok (.aload_n 0, 1) := by decide +kernel
theorem dX5_wouldNow_4 : decode cX5_wouldNow 4 = .ok (.getfield 43, 3) := by decide +kernel
theorem dX5_wouldNow_7 : decode cX5_wouldNow 7 = .ok (.iload_n 1, 1) := by decide +kernel
theorem dX5_wouldNow_8 : decode cX5_wouldNow 8 = .ok (.iaload, 1) := by decide +kernel
theorem dX5_wouldNow_9 : decode cX5_wouldNow 9 = .ok (.iload_n 2, 1) := by decide +kernel
theorem dX5_wouldNow_10 : decode cX5_wouldNow 10 = .ok (.ishr, 1) := by decide +kernel
theorem dX5_wouldNow_11 : decode cX5_wouldNow 11 = .ok (.iconst 1, 1) := by decide +kernel
theorem dX5_wouldNow_12 : decode cX5_wouldNow 12 = .ok (.iand, 1) := by decide +kernel
theorem dX5_wouldNow_13 : decode cX5_wouldNow 13 = .ok (.iconst 1, 1) := by decide +kernel
theorem dX5_wouldNow_14 : decode cX5_wouldNow 14 = .ok (.if_icmp .ne 7, 3) := by decide +kernel
theorem dX5_wouldNow_17 : decode cX5_wouldNow 17 = .ok (.iconst 1, 1) := by decide +kernel
theorem dX5_wouldNow_18 : decode cX5_wouldNow 18 = .ok (.goto 4, 3) := by decide +kernel
theorem dX5_wouldNow_21 : decode cX5_wouldNow 21 = .ok (.iconst 0, 1) := by decide +kernel
theorem dX5_wouldNow_22 : decode cX5_wouldNow 22 = .ok (.invokevirtual 142, 3) := by decide +kernel
theorem dX5_wouldNow_25 : decode cX5_wouldNow 25 = .ok (.ireturn, 1) := by decide +kernel
set_option maxRecDepth 20000 in
theorem ggX5_wouldsOn_X5_wouldNow : GoodIn wsX5_wouldsOn wsX5_wouldNow := goodIn_r _ [6, 7, 8, 9, 10, 5, 11, 12, 13, 14, 15, 16, 17, 18, 19, 20, 21, 22, 23, 24, 25, 26, 27, 28, 29, 30, 31, 32, 33, 34, 35, 36, 37, 38, 39, 40, 41] (by decide +kernel) (by decide +kernel)
set_option maxRecDepth 20000 in
theorem gX5_wouldsOn_X5_wouldNow : GoodIn wsX5_wouldsOn (wsV RX5 146 RX5 yX5_wouldNow wsX5_wouldNow) := goodIn_app (goodIn_of _ (by decide +kernel)) ggX5_wouldsOn_X5_wouldNow
theorem dX5_wouldsOn_0 : decode cX5_wouldsOn 0 = .ok (.iconst 0, 1) := by decide +kernel
theorem dX5_wouldsOn_1 : decode cX5_wouldsOn 1 = .ok (.istore_n 2, 1) := by decide +kernel
theorem dX5_wouldsOn_2 : decode cX5_wouldsOn 2 = .ok (.iconst 0, 1) := by decide +kernel
theorem dX5_wouldsOn_3 : decode cX5_wouldsOn 3 = .ok (.istore_n 3, 1) := by decide +kernel
theorem dX5_wouldsOn_4 : decode cX5_wouldsOn 4 = .ok (.iload_n 3, 1) := by decide +kernel
theorem dX5_wouldsOn_5 : decode cX5_wouldsOn 5 = .ok (.aload_n 0, 1) := by decide +kernel
theorem dX5_wouldsOn_6 : decode cX5_wouldsOn 6 = .ok (.getfield 65, 3) := by decide +kernel
theorem dX5_wouldsOn_9 : decode cX5_wouldsOn 9 = .ok (.if_icmp .ge 28, 3) := by decide +kernel
theorem dX5_wouldsOn_12 : decode cX5_wouldsOn 12 = .ok (.iload_n 2, 1) := by decide +kernel
theorem dX5_wouldsOn_13 : decode cX5_wouldsOn 13 = .ok (.aload_n 0, 1) := by decide +kernel
theorem dX5_wouldsOn_14 : decode cX5_wouldsOn 14 = .ok (.iload_n 3, 1) := by decide +kernel
theorem dX5_wouldsOn_15 : decode cX5_wouldsOn 15 = .ok (.iload_n 1, 1) := by decide +kernel
theorem dX5_wouldsOn_16 : decode cX5_wouldsOn 16 = .ok (.invokevirtual 146, 3) := by decide +kernel
theorem dX5_wouldsOn_19 : decode cX5_wouldsOn 19 = .ok (.ifCond .eq 9, 3) := by decide +kernel
theorem dX5_wouldsOn_22 : decode cX5_wouldsOn 22 = .ok (.iconst 1, 1) := by decide +kernel
theorem dX5_wouldsOn_23 : decode cX5_wouldsOn 23 = .ok (.iload_n 3, 1) := by decide +kernel
theorem dX5_wouldsOn_24 : decode cX5_wouldsOn 24 = .ok (.ishl, 1) := by decide +kernel
theorem dX5_wouldsOn_25 : decode cX5_wouldsOn 25 = .ok (.goto 4, 3) := by decide +kernel
theorem dX5_wouldsOn_28 : decode cX5_wouldsOn 28 = .ok (.iconst 0, 1) := by decide +kernel
theorem dX5_wouldsOn_29 : decode cX5_wouldsOn 29 = .ok (.ior, 1) := by decide +kernel
theorem dX5_wouldsOn_30 : decode cX5_wouldsOn 30 = .ok (.istore_n 2, 1) := by decide +kernel
theorem dX5_wouldsOn_31 : decode cX5_wouldsOn 31 = .ok (.iinc 3 1, 3) := by decide +kernel
theorem dX5_wouldsOn_34 : decode cX5_wouldsOn 34 = .ok (.goto (-30), 3) := by decide +kernel
theorem dX5_wouldsOn_37 : decode cX5_wouldsOn 37 = .ok (.iload_n 2, 1) := by decide +kernel
theorem dX5_wouldsOn_38 : decode cX5_wouldsOn 38 = .ok (.ireturn, 1) := by decide +kernel
set_option maxRecDepth 20000 in
theorem ggX5_standsOn_X5_wouldsOn : GoodIn wsX5_standsOn wsX5_wouldsOn := goodIn_r _ [8, 2, 9, 10, 11, 7, 12, 13, 14, 15, 16, 17, 3, 18, 19, 20, 21, 22, 23, 24, 25, 26, 27, 28, 29, 30, 31, 32, 33, 34, 35, 36, 37, 38, 39, 40, 41, 42, 43, 44, 45, 46] (by decide +kernel) (by decide +kernel)
set_option maxRecDepth 20000 in
theorem gX5_standsOn_X5_wouldsOn : GoodIn wsX5_standsOn (wsV RX5 149 RX5 yX5_wouldsOn wsX5_wouldsOn) := goodIn_app (goodIn_of _ (by decide +kernel)) ggX5_standsOn_X5_wouldsOn
theorem dX5_standsOn_0 : decode cX5_standsOn 0 = .ok (.aload_n 0, 1) := by decide +kernel
theorem dX5_standsOn_1 : decode cX5_standsOn 1 = .ok (.iload_n 1, 1) := by decide +kernel
theorem dX5_standsOn_2 : decode cX5_standsOn 2 = .ok (.invokevirtual 149, 3) := by decide +kernel
theorem dX5_standsOn_5 : decode cX5_standsOn 5 = .ok (.istore_n 2, 1) := by decide +kernel
theorem dX5_standsOn_6 : decode cX5_standsOn 6 = .ok (.iconst 0, 1) := by decide +kernel
theorem dX5_standsOn_7 : decode cX5_standsOn 7 = .ok (.istore_n 3, 1) := by decide +kernel
theorem dX5_standsOn_8 : decode cX5_standsOn 8 = .ok (.iconst 0, 1) := by decide +kernel
theorem dX5_standsOn_9 : decode cX5_standsOn 9 = .ok (.istore 4, 2) := by decide +kernel
theorem dX5_standsOn_11 : decode cX5_standsOn 11 = .ok (.iload 4, 2) := by decide +kernel
theorem dX5_standsOn_13 : decode cX5_standsOn 13 = .ok (.aload_n 0, 1) := by decide +kernel
theorem dX5_standsOn_14 : decode cX5_standsOn 14 = .ok (.getfield 104, 3) := by decide +kernel
theorem dX5_standsOn_17 : decode cX5_standsOn 17 = .ok (.if_icmp .ge 113, 3) := by decide +kernel
theorem dX5_standsOn_20 : decode cX5_standsOn 20 = .ok (.bipush (-9), 2) := by decide +kernel
theorem dX5_standsOn_22 : decode cX5_standsOn 22 = .ok (.istore 5, 2) := by decide +kernel
theorem dX5_standsOn_24 : decode cX5_standsOn 24 = .ok (.iconst 0, 1) := by decide +kernel
theorem dX5_standsOn_25 : decode cX5_standsOn 25 = .ok (.istore 6, 2) := by decide +kernel
theorem dX5_standsOn_27 : decode cX5_standsOn 27 = .ok (.iload 6, 2) := by decide +kernel
theorem dX5_standsOn_29 : decode cX5_standsOn 29 = .ok (.aload_n 0, 1) := by decide +kernel
theorem dX5_standsOn_30 : decode cX5_standsOn 30 = .ok (.getfield 65, 3) := by decide +kernel
theorem dX5_standsOn_33 : decode cX5_standsOn 33 = .ok (.if_icmp .ge 73, 3) := by decide +kernel
theorem dX5_standsOn_36 : decode cX5_standsOn 36 = .ok (.iload_n 2, 1) := by decide +kernel
theorem dX5_standsOn_37 : decode cX5_standsOn 37 = .ok (.iload 6, 2) := by decide +kernel
theorem dX5_standsOn_39 : decode cX5_standsOn 39 = .ok (.ishr, 1) := by decide +kernel
theorem dX5_standsOn_40 : decode cX5_standsOn 40 = .ok (.iconst 1, 1) := by decide +kernel
theorem dX5_standsOn_41 : decode cX5_standsOn 41 = .ok (.iand, 1) := by decide +kernel
theorem dX5_standsOn_42 : decode cX5_standsOn 42 = .ok (.iconst 1, 1) := by decide +kernel
theorem dX5_standsOn_43 : decode cX5_standsOn 43 = .ok (.if_icmp .ne 16, 3) := by decide +kernel
theorem dX5_standsOn_46 : decode cX5_standsOn 46 = .ok (.iload_n 3, 1) := by decide +kernel
theorem dX5_standsOn_47 : decode cX5_standsOn 47 = .ok (.iload 6, 2) := by decide +kernel
theorem dX5_standsOn_49 : decode cX5_standsOn 49 = .ok (.ishr, 1) := by decide +kernel
theorem dX5_standsOn_50 : decode cX5_standsOn 50 = .ok (.iconst 1, 1) := by decide +kernel
theorem dX5_standsOn_51 : decode cX5_standsOn 51 = .ok (.iand, 1) := by decide +kernel
theorem dX5_standsOn_52 : decode cX5_standsOn 52 = .ok (.ifCond .ne 7, 3) := by decide +kernel
theorem dX5_standsOn_55 : decode cX5_standsOn 55 = .ok (.iconst 1, 1) := by decide +kernel
theorem dX5_standsOn_56 : decode cX5_standsOn 56 = .ok (.goto 4, 3) := by decide +kernel
theorem dX5_standsOn_59 : decode cX5_standsOn 59 = .ok (.iconst 0, 1) := by decide +kernel
theorem dX5_standsOn_60 : decode cX5_standsOn 60 = .ok (.istore 7, 2) := by decide +kernel
theorem dX5_standsOn_62 : decode cX5_standsOn 62 = .ok (.iload 7, 2) := by decide +kernel
theorem dX5_standsOn_64 : decode cX5_standsOn 64 = .ok (.ifCond .eq 32, 3) := by decide +kernel
theorem dX5_standsOn_67 : decode cX5_standsOn 67 = .ok (.iload 5, 2) := by decide +kernel
theorem dX5_standsOn_69 : decode cX5_standsOn 69 = .ok (.bipush (-9), 2) := by decide +kernel
theorem dX5_standsOn_71 : decode cX5_standsOn 71 = .ok (.if_icmp .eq 20, 3) := by decide +kernel
theorem dX5_standsOn_74 : decode cX5_standsOn 74 = .ok (.aload_n 0, 1) := by decide +kernel
theorem dX5_standsOn_75 : decode cX5_standsOn 75 = .ok (.getfield 25, 3) := by decide +kernel
theorem dX5_standsOn_78 : decode cX5_standsOn 78 = .ok (.iload 6, 2) := by decide +kernel
theorem dX5_standsOn_80 : decode cX5_standsOn 80 = .ok (.iaload, 1) := by decide +kernel
theorem dX5_standsOn_81 : decode cX5_standsOn 81 = .ok (.aload_n 0, 1) := by decide +kernel
theorem dX5_standsOn_82 : decode cX5_standsOn 82 = .ok (.getfield 25, 3) := by decide +kernel
theorem dX5_standsOn_85 : decode cX5_standsOn 85 = .ok (.iload 5, 2) := by decide +kernel
theorem dX5_standsOn_87 : decode cX5_standsOn 87 = .ok (.iaload, 1) := by decide +kernel
theorem dX5_standsOn_88 : decode cX5_standsOn 88 = .ok (.if_icmp .ge 8, 3) := by decide +kernel
theorem dX5_standsOn_91 : decode cX5_standsOn 91 = .ok (.iload 6, 2) := by decide +kernel
theorem dX5_standsOn_93 : decode cX5_standsOn 93 = .ok (.goto 5, 3) := by decide +kernel
theorem dX5_standsOn_96 : decode cX5_standsOn 96 = .ok (.iload 5, 2) := by decide +kernel
theorem dX5_standsOn_98 : decode cX5_standsOn 98 = .ok (.istore 5, 2) := by decide +kernel
theorem dX5_standsOn_100 : decode cX5_standsOn 100 = .ok (.iinc 6 1, 3) := by decide +kernel
theorem dX5_standsOn_103 : decode cX5_standsOn 103 = .ok (.goto (-76), 3) := by decide +kernel
theorem dX5_standsOn_106 : decode cX5_standsOn 106 = .ok (.iload_n 3, 1) := by decide +kernel
theorem dX5_standsOn_107 : decode cX5_standsOn 107 = .ok (.iload 5, 2) := by decide +kernel
theorem dX5_standsOn_109 : decode cX5_standsOn 109 = .ok (.bipush (-9), 2) := by decide +kernel
theorem dX5_standsOn_111 : decode cX5_standsOn 111 = .ok (.if_icmp .ne 7, 3) := by decide +kernel
theorem dX5_standsOn_114 : decode cX5_standsOn 114 = .ok (.iconst 0, 1) := by decide +kernel
theorem dX5_standsOn_115 : decode cX5_standsOn 115 = .ok (.goto 7, 3) := by decide +kernel
theorem dX5_standsOn_118 : decode cX5_standsOn 118 = .ok (.iconst 1, 1) := by decide +kernel
theorem dX5_standsOn_119 : decode cX5_standsOn 119 = .ok (.iload 5, 2) := by decide +kernel
theorem dX5_standsOn_121 : decode cX5_standsOn 121 = .ok (.ishl, 1) := by decide +kernel
theorem dX5_standsOn_122 : decode cX5_standsOn 122 = .ok (.ior, 1) := by decide +kernel
theorem dX5_standsOn_123 : decode cX5_standsOn 123 = .ok (.istore_n 3, 1) := by decide +kernel
theorem dX5_standsOn_124 : decode cX5_standsOn 124 = .ok (.iinc 4 1, 3) := by decide +kernel
theorem dX5_standsOn_127 : decode cX5_standsOn 127 = .ok (.goto (-116), 3) := by decide +kernel
theorem dX5_standsOn_130 : decode cX5_standsOn 130 = .ok (.iload_n 3, 1) := by decide +kernel
theorem dX5_standsOn_131 : decode cX5_standsOn 131 = .ok (.ireturn, 1) := by decide +kernel
set_option maxRecDepth 20000 in
theorem ggX5_hoursBehind_X5_standsOn : GoodIn wsX5_hoursBehind wsX5_standsOn := goodIn_r _ [5, 6, 7, 8, 9, 10, 11, 4, 12, 13, 14, 15, 16, 17, 18, 19, 20, 21, 22, 23, 30, 31, 32, 33, 34, 35, 36, 37, 38, 39, 40, 41, 42, 43, 44, 45, 46, 47, 48, 49, 50, 51, 52, 53, 54, 55, 56] (by decide +kernel) (by decide +kernel)
set_option maxRecDepth 20000 in
theorem gX5_hoursBehind_X5_standsOn : GoodIn wsX5_hoursBehind (wsV RX5 152 RX5 yX5_standsOn wsX5_standsOn) := goodIn_app (goodIn_of _ (by decide +kernel)) ggX5_hoursBehind_X5_standsOn
set_option maxRecDepth 20000 in
theorem ggX5_hoursBehind_X5_hoursOf : GoodIn wsX5_hoursBehind wsX5_hoursOf := goodIn_r _ [27, 28, 29, 30, 31, 32, 33, 34, 35, 36, 37, 38, 39, 40, 41, 42, 43, 44, 45, 46, 47, 48, 49, 50, 51, 52, 53, 54, 55, 56] (by decide +kernel) (by decide +kernel)
set_option maxRecDepth 20000 in
theorem gX5_hoursBehind_X5_hoursOf : GoodIn wsX5_hoursBehind (wsV RX5 133 RX5 yX5_hoursOf wsX5_hoursOf) := goodIn_app (goodIn_of _ (by decide +kernel)) ggX5_hoursBehind_X5_hoursOf
theorem dX5_hoursBehind_0 : decode cX5_hoursBehind 0 = .ok (.iconst 0, 1) := by decide +kernel
theorem dX5_hoursBehind_1 : decode cX5_hoursBehind 1 = .ok (.istore_n 3, 1) := by decide +kernel
theorem dX5_hoursBehind_2 : decode cX5_hoursBehind 2 = .ok (.iconst 0, 1) := by decide +kernel
theorem dX5_hoursBehind_3 : decode cX5_hoursBehind 3 = .ok (.istore 4, 2) := by decide +kernel
theorem dX5_hoursBehind_5 : decode cX5_hoursBehind 5 = .ok (.iload 4, 2) := by decide +kernel
theorem dX5_hoursBehind_7 : decode cX5_hoursBehind 7 = .ok (.iload_n 2, 1) := by decide +kernel
theorem dX5_hoursBehind_8 : decode cX5_hoursBehind 8 = .ok (.if_icmp .ge 35, 3) := by decide +kernel
theorem dX5_hoursBehind_11 : decode cX5_hoursBehind 11 = .ok (.iload_n 3, 1) := by decide +kernel
theorem dX5_hoursBehind_12 : decode cX5_hoursBehind 12 = .ok (.aload_n 0, 1) := by decide +kernel
theorem dX5_hoursBehind_13 : decode cX5_hoursBehind 13 = .ok (.iload 4, 2) := by decide +kernel
theorem dX5_hoursBehind_15 : decode cX5_hoursBehind 15 = .ok (.invokevirtual 152, 3) := by decide +kernel
theorem dX5_hoursBehind_18 : decode cX5_hoursBehind 18 = .ok (.iload_n 1, 1) := by decide +kernel
theorem dX5_hoursBehind_19 : decode cX5_hoursBehind 19 = .ok (.ishr, 1) := by decide +kernel
theorem dX5_hoursBehind_20 : decode cX5_hoursBehind 20 = .ok (.iconst 1, 1) := by decide +kernel
theorem dX5_hoursBehind_21 : decode cX5_hoursBehind 21 = .ok (.iand, 1) := by decide +kernel
theorem dX5_hoursBehind_22 : decode cX5_hoursBehind 22 = .ok (.iconst 1, 1) := by decide +kernel
theorem dX5_hoursBehind_23 : decode cX5_hoursBehind 23 = .ok (.if_icmp .ne 11, 3) := by decide +kernel
theorem dX5_hoursBehind_26 : decode cX5_hoursBehind 26 = .ok (.aload_n 0, 1) := by decide +kernel
theorem dX5_hoursBehind_27 : decode cX5_hoursBehind 27 = .ok (.iload_n 1, 1) := by decide +kernel
theorem dX5_hoursBehind_28 : decode cX5_hoursBehind 28 = .ok (.invokevirtual 133, 3) := by decide +kernel
theorem dX5_hoursBehind_31 : decode cX5_hoursBehind 31 = .ok (.goto 4, 3) := by decide +kernel
theorem dX5_hoursBehind_34 : decode cX5_hoursBehind 34 = .ok (.iconst 0, 1) := by decide +kernel
theorem dX5_hoursBehind_35 : decode cX5_hoursBehind 35 = .ok (.iadd, 1) := by decide +kernel
theorem dX5_hoursBehind_36 : decode cX5_hoursBehind 36 = .ok (.istore_n 3, 1) := by decide +kernel
theorem dX5_hoursBehind_37 : decode cX5_hoursBehind 37 = .ok (.iinc 4 1, 3) := by decide +kernel
theorem dX5_hoursBehind_40 : decode cX5_hoursBehind 40 = .ok (.goto (-35), 3) := by decide +kernel
theorem dX5_hoursBehind_43 : decode cX5_hoursBehind 43 = .ok (.iload_n 3, 1) := by decide +kernel
theorem dX5_hoursBehind_44 : decode cX5_hoursBehind 44 = .ok (.ireturn, 1) := by decide +kernel
set_option maxRecDepth 20000 in
theorem ggX5_bishopNow_X5_hoursBehind : GoodIn wsX5_bishopNow wsX5_hoursBehind := goodIn_r _ [7, 8, 9, 10, 6, 11, 12, 1, 13, 14, 15, 16, 17, 18, 19, 20, 21, 22, 23, 24, 25, 26, 27, 28, 29, 30, 31, 32, 33, 34, 35, 36, 37, 38, 39, 40, 41, 42, 43, 44, 45, 46, 47, 48, 49, 50, 51, 52, 53, 54, 55, 56, 57, 58, 59, 60, 61] (by decide +kernel) (by decide +kernel)
set_option maxRecDepth 20000 in
theorem gX5_bishopNow_X5_hoursBehind : GoodIn wsX5_bishopNow (wsV RX5 155 RX5 yX5_hoursBehind wsX5_hoursBehind) := goodIn_app (goodIn_of _ (by decide +kernel)) ggX5_bishopNow_X5_hoursBehind
theorem dX5_bishopNow_0 : decode cX5_bishopNow 0 = .ok (.bipush (-9), 2) := by decide +kernel
theorem dX5_bishopNow_2 : decode cX5_bishopNow 2 = .ok (.istore_n 1, 1) := by decide +kernel
theorem dX5_bishopNow_3 : decode cX5_bishopNow 3 = .ok (.iconst 0, 1) := by decide +kernel
theorem dX5_bishopNow_4 : decode cX5_bishopNow 4 = .ok (.istore_n 2, 1) := by decide +kernel
theorem dX5_bishopNow_5 : decode cX5_bishopNow 5 = .ok (.iconst 0, 1) := by decide +kernel
theorem dX5_bishopNow_6 : decode cX5_bishopNow 6 = .ok (.istore_n 3, 1) := by decide +kernel
theorem dX5_bishopNow_7 : decode cX5_bishopNow 7 = .ok (.iload_n 3, 1) := by decide +kernel
theorem dX5_bishopNow_8 : decode cX5_bishopNow 8 = .ok (.aload_n 0, 1) := by decide +kernel
theorem dX5_bishopNow_9 : decode cX5_bishopNow 9 = .ok (.getfield 65, 3) := by decide +kernel
theorem dX5_bishopNow_12 : decode cX5_bishopNow 12 = .ok (.if_icmp .ge 31, 3) := by decide +kernel
theorem dX5_bishopNow_15 : decode cX5_bishopNow 15 = .ok (.aload_n 0, 1) := by decide +kernel
theorem dX5_bishopNow_16 : decode cX5_bishopNow 16 = .ok (.iload_n 3, 1) := by decide +kernel
theorem dX5_bishopNow_17 : decode cX5_bishopNow 17 = .ok (.aload_n 0, 1) := by decide +kernel
theorem dX5_bishopNow_18 : decode cX5_bishopNow 18 = .ok (.getfield 68, 3) := by decide +kernel
theorem dX5_bishopNow_21 : decode cX5_bishopNow 21 = .ok (.invokevirtual 155, 3) := by decide +kernel
theorem dX5_bishopNow_24 : decode cX5_bishopNow 24 = .ok (.istore 4, 2) := by decide +kernel
theorem dX5_bishopNow_26 : decode cX5_bishopNow 26 = .ok (.iload 4, 2) := by decide +kernel
theorem dX5_bishopNow_28 : decode cX5_bishopNow 28 = .ok (.iload_n 2, 1) := by decide +kernel
theorem dX5_bishopNow_29 : decode cX5_bishopNow 29 = .ok (.if_icmp .le 8, 3) := by decide +kernel
theorem dX5_bishopNow_32 : decode cX5_bishopNow 32 = .ok (.iload_n 3, 1) := by decide +kernel
theorem dX5_bishopNow_33 : decode cX5_bishopNow 33 = .ok (.istore_n 1, 1) := by decide +kernel
theorem dX5_bishopNow_34 : decode cX5_bishopNow 34 = .ok (.iload 4, 2) := by decide +kernel
theorem dX5_bishopNow_36 : decode cX5_bishopNow 36 = .ok (.istore_n 2, 1) := by decide +kernel
theorem dX5_bishopNow_37 : decode cX5_bishopNow 37 = .ok (.iinc 3 1, 3) := by decide +kernel
theorem dX5_bishopNow_40 : decode cX5_bishopNow 40 = .ok (.goto (-33), 3) := by decide +kernel
theorem dX5_bishopNow_43 : decode cX5_bishopNow 43 = .ok (.iload_n 1, 1) := by decide +kernel
theorem dX5_bishopNow_44 : decode cX5_bishopNow 44 = .ok (.ireturn, 1) := by decide +kernel
set_option maxRecDepth 20000 in
theorem ggX5_would_X5_isPupil : GoodIn wsX5_would wsX5_isPupil := goodIn_r _ [5, 6, 19, 20, 21, 22, 23, 24, 25, 26, 27, 28, 29, 30, 31, 32, 33, 34, 35, 36, 37, 38, 39, 40, 41, 42, 43, 44, 45] (by decide +kernel) (by decide +kernel)
set_option maxRecDepth 20000 in
theorem gX5_would_X5_isPupil : GoodIn wsX5_would (wsV RX5 130 RX5 yX5_isPupil wsX5_isPupil) := goodIn_app (goodIn_of _ (by decide +kernel)) ggX5_would_X5_isPupil
set_option maxRecDepth 20000 in
theorem ggX5_would_X5_isDay : GoodIn wsX5_would wsX5_isDay := goodIn_r _ [10, 11, 19, 20, 21, 22, 23, 24, 25, 26, 27, 28, 29, 30, 31, 32, 33, 34, 35, 36, 37, 38, 39, 40, 41, 42, 43, 44, 45] (by decide +kernel) (by decide +kernel)
set_option maxRecDepth 20000 in
theorem gX5_would_X5_isDay : GoodIn wsX5_would (wsV RX5 136 RX5 yX5_isDay wsX5_isDay) := goodIn_app (goodIn_of _ (by decide +kernel)) ggX5_would_X5_isDay
set_option maxRecDepth 20000 in
theorem ggX5_would_X5_isWould : GoodIn wsX5_would wsX5_isWould := goodIn_r _ [15, 16, 17, 18, 19, 20, 21, 22, 23, 24, 25, 26, 27, 28, 29, 30, 31, 32, 33, 34, 35, 36, 37, 38, 39, 40, 41, 42, 43, 44, 45] (by decide +kernel) (by decide +kernel)
set_option maxRecDepth 20000 in
theorem gX5_would_X5_isWould : GoodIn wsX5_would (wsV RX5 142 RX5 yX5_isWould wsX5_isWould) := goodIn_app (goodIn_of _ (by decide +kernel)) ggX5_would_X5_isWould
theorem dX5_would_0 : decode cX5_would 0 = .ok (.aload_n 0, 1) := by decide +kernel
theorem dX5_would_1 : decode cX5_would 1 = .ok (.iload_n 1, 1) := by decide +kernel
theorem dX5_would_2 : decode cX5_would 2 = .ok (.invokevirtual 130, 3) := by decide +kernel
theorem dX5_would_5 : decode cX5_would 5 = .ok (.ifCond .eq 11, 3) := by decide +kernel
theorem dX5_would_8 : decode cX5_would 8 = .ok (.aload_n 0, 1) := by decide +kernel
theorem dX5_would_9 : decode cX5_would 9 = .ok (.iload_n 2, 1) := by decide +kernel
theorem dX5_would_10 : decode cX5_would 10 = .ok (.invokevirtual 136, 3) := by decide +kernel
theorem dX5_would_13 : decode cX5_would 13 = .ok (.ifCond .ne 5, 3) := by decide +kernel
theorem dX5_would_16 : decode cX5_would 16 = .ok (.iconst (-1), 1) := by decide +kernel
theorem dX5_would_17 : decode cX5_would 17 = .ok (.ireturn, 1) := by decide +kernel
theorem dX5_would_18 : decode cX5_would 18 = .ok (.aload_n 0, 1) := by decide +kernel
theorem dX5_would_19 : decode cX5_would 19 = .ok (.iload_n 1, 1) := by decide +kernel
theorem dX5_would_20 : decode cX5_would 20 = .ok (.iload_n 2, 1) := by decide +kernel
theorem dX5_would_21 : decode cX5_would 21 = .ok (.iload_n 3, 1) := by decide +kernel
theorem dX5_would_22 : decode cX5_would 22 = .ok (.invokevirtual 142, 3) := by decide +kernel
theorem dX5_would_25 : decode cX5_would 25 = .ok (.ifCond .eq 7, 3) := by decide +kernel
theorem dX5_would_28 : decode cX5_would 28 = .ok (.iconst 1, 1) := by decide +kernel
theorem dX5_would_29 : decode cX5_would 29 = .ok (.goto 4, 3) := by decide +kernel
theorem dX5_would_32 : decode cX5_would 32 = .ok (.iconst 0, 1) := by decide +kernel
theorem dX5_would_33 : decode cX5_would 33 = .ok (.ireturn, 1) := by decide +kernel
set_option maxRecDepth 20000 in
theorem ggX5_stand_X5_isDay : GoodIn wsX5_stand wsX5_isDay := goodIn_r _ [5, 6, 33, 34, 35, 36, 37, 38, 39, 40, 41, 42, 43, 44, 45, 46, 47, 48, 49, 50, 51, 52, 53, 54, 55, 56, 57, 58, 59] (by decide +kernel) (by decide +kernel)
set_option maxRecDepth 20000 in
theorem gX5_stand_X5_isDay : GoodIn wsX5_stand (wsV RX5 136 RX5 yX5_isDay wsX5_isDay) := goodIn_app (goodIn_of _ (by decide +kernel)) ggX5_stand_X5_isDay
set_option maxRecDepth 20000 in
theorem ggX5_stand_X5_nobody : GoodIn wsX5_stand wsX5_nobody := goodIn_r _ [10, 11, 33, 34, 35, 36, 37, 38, 39, 40, 41, 42, 43, 44, 45, 46, 47, 48, 49, 50, 51, 52, 53, 54, 55, 56, 57, 58, 59] (by decide +kernel) (by decide +kernel)
set_option maxRecDepth 20000 in
theorem gX5_stand_X5_nobody : GoodIn wsX5_stand (wsV RX5 159 RX5 yX5_nobody wsX5_nobody) := goodIn_app (goodIn_of _ (by decide +kernel)) ggX5_stand_X5_nobody
set_option maxRecDepth 20000 in
theorem ggX5_stand_X5_standsOn : GoodIn wsX5_stand wsX5_standsOn := goodIn_r _ [15, 16, 17, 18, 19, 20, 21, 4, 22, 23, 24, 25, 26, 11, 27, 28, 29, 30, 31, 32, 33, 34, 35, 36, 37, 38, 39, 40, 41, 42, 43, 44, 45, 46, 47, 48, 49, 50, 51, 52, 53, 54, 55, 56, 57, 58, 59] (by decide +kernel) (by decide +kernel)
set_option maxRecDepth 20000 in
theorem gX5_stand_X5_standsOn : GoodIn wsX5_stand (wsV RX5 152 RX5 yX5_standsOn wsX5_standsOn) := goodIn_app (goodIn_of _ (by decide +kernel)) ggX5_stand_X5_standsOn
theorem dX5_stand_0 : decode cX5_stand 0 = .ok (.aload_n 0, 1) := by decide +kernel
theorem dX5_stand_1 : decode cX5_stand 1 = .ok (.iload_n 1, 1) := by decide +kernel
theorem dX5_stand_2 : decode cX5_stand 2 = .ok (.invokevirtual 136, 3) := by decide +kernel
theorem dX5_stand_5 : decode cX5_stand 5 = .ok (.ifCond .ne 5, 3) := by decide +kernel
theorem dX5_stand_8 : decode cX5_stand 8 = .ok (.iconst (-1), 1) := by decide +kernel
theorem dX5_stand_9 : decode cX5_stand 9 = .ok (.ireturn, 1) := by decide +kernel
theorem dX5_stand_10 : decode cX5_stand 10 = .ok (.aload_n 0, 1) := by decide +kernel
theorem dX5_stand_11 : decode cX5_stand 11 = .ok (.invokevirtual 159, 3) := by decide +kernel
theorem dX5_stand_14 : decode cX5_stand 14 = .ok (.aload_n 0, 1) := by decide +kernel
theorem dX5_stand_15 : decode cX5_stand 15 = .ok (.iload_n 1, 1) := by decide +kernel
theorem dX5_stand_16 : decode cX5_stand 16 = .ok (.invokevirtual 152, 3) := by decide +kernel
theorem dX5_stand_19 : decode cX5_stand 19 = .ok (.ireturn, 1) := by decide +kernel
set_option maxRecDepth 20000 in
theorem ggX5_bishop_X5_nobody : GoodIn wsX5_bishop wsX5_nobody := goodIn_r _ [6, 7, 43, 44, 45, 46, 47, 48, 49, 50, 51, 52, 53, 54, 55, 56, 57, 58, 59, 60, 61, 62, 63, 64, 65, 66, 67, 68, 69] (by decide +kernel) (by decide +kernel)
set_option maxRecDepth 20000 in
theorem gX5_bishop_X5_nobody : GoodIn wsX5_bishop (wsV RX5 159 RX5 yX5_nobody wsX5_nobody) := goodIn_app (goodIn_of _ (by decide +kernel)) ggX5_bishop_X5_nobody
set_option maxRecDepth 20000 in
theorem ggX5_bishop_X5_bishopNow : GoodIn wsX5_bishop wsX5_bishopNow := goodIn_r _ [11, 12, 1, 13, 14, 15, 5, 16, 17, 18, 19, 20, 21, 22, 23, 24, 25, 26, 27, 28, 29, 30, 7, 31, 32, 33, 34, 35, 36, 37, 38, 39, 40, 41, 42, 43, 44, 45, 46, 47, 48, 49, 50, 51, 52, 53, 54, 55, 56, 57, 58, 59, 60, 61, 62, 63, 64, 65, 66, 67, 68, 69] (by decide +kernel) (by decide +kernel)
set_option maxRecDepth 20000 in
theorem gX5_bishop_X5_bishopNow : GoodIn wsX5_bishop (wsV RX5 162 RX5 yX5_bishopNow wsX5_bishopNow) := goodIn_app (goodIn_of _ (by decide +kernel)) ggX5_bishop_X5_bishopNow
theorem dX5_bishop_0 : decode cX5_bishop 0 = .ok (.aload_n 0, 1) := by decide +kernel
theorem dX5_bishop_1 : decode cX5_bishop 1 = .ok (.getfield 68, 3) := by decide +kernel
theorem dX5_bishop_4 : decode cX5_bishop 4 = .ok (.ifCond .ne 6, 3) := by decide +kernel
theorem dX5_bishop_7 : decode cX5_bishop 7 = .ok (.bipush (-3), 2) := by decide +kernel
theorem dX5_bishop_9 : decode cX5_bishop 9 = .ok (.ireturn, 1) := by decide +kernel
theorem dX5_bishop_10 : decode cX5_bishop 10 = .ok (.aload_n 0, 1) := by decide +kernel
theorem dX5_bishop_11 : decode cX5_bishop 11 = .ok (.invokevirtual 159, 3) := by decide +kernel
theorem dX5_bishop_14 : decode cX5_bishop 14 = .ok (.aload_n 0, 1) := by decide +kernel
theorem dX5_bishop_15 : decode cX5_bishop 15 = .ok (.invokevirtual 162, 3) := by decide +kernel
theorem dX5_bishop_18 : decode cX5_bishop 18 = .ok (.ireturn, 1) := by decide +kernel
set_option maxRecDepth 20000 in
theorem ggX5_isAtRest_X5_hoursBehind : GoodIn wsX5_isAtRest wsX5_hoursBehind := goodIn_r _ [7, 8, 9, 10, 6, 11, 12, 13, 14, 15, 16, 17, 18, 19, 20, 21, 22, 1, 23, 24, 25, 26, 27, 28, 29, 30, 31, 32, 33, 34, 35, 36, 37, 38, 39, 40, 41, 42, 43, 44, 45, 46, 47, 48, 49, 50, 51, 52, 53, 54, 55, 56, 57, 58, 59, 60, 61] (by decide +kernel) (by decide +kernel)
set_option maxRecDepth 20000 in
theorem gX5_isAtRest_X5_hoursBehind : GoodIn wsX5_isAtRest (wsV RX5 155 RX5 yX5_hoursBehind wsX5_hoursBehind) := goodIn_app (goodIn_of _ (by decide +kernel)) ggX5_isAtRest_X5_hoursBehind
theorem dX5_isAtRest_0 : decode cX5_isAtRest 0 = .ok (.aload_n 0, 1) := by decide +kernel
theorem dX5_isAtRest_1 : decode cX5_isAtRest 1 = .ok (.getfield 43, 3) := by decide +kernel
theorem dX5_isAtRest_4 : decode cX5_isAtRest 4 = .ok (.iload_n 1, 1) := by decide +kernel
theorem dX5_isAtRest_5 : decode cX5_isAtRest 5 = .ok (.iaload, 1) := by decide +kernel
theorem dX5_isAtRest_6 : decode cX5_isAtRest 6 = .ok (.istore_n 2, 1) := by decide +kernel
theorem dX5_isAtRest_7 : decode cX5_isAtRest 7 = .ok (.aload_n 0, 1) := by decide +kernel
theorem dX5_isAtRest_8 : decode cX5_isAtRest 8 = .ok (.iload_n 1, 1) := by decide +kernel
theorem dX5_isAtRest_9 : decode cX5_isAtRest 9 = .ok (.aload_n 0, 1) := by decide +kernel
theorem dX5_isAtRest_10 : decode cX5_isAtRest 10 = .ok (.getfield 68, 3) := by decide +kernel
theorem dX5_isAtRest_13 : decode cX5_isAtRest 13 = .ok (.invokevirtual 155, 3) := by decide +kernel
theorem dX5_isAtRest_16 : decode cX5_isAtRest 16 = .ok (.istore_n 3, 1) := by decide +kernel
theorem dX5_isAtRest_17 : decode cX5_isAtRest 17 = .ok (.iconst 1, 1) := by decide +kernel
theorem dX5_isAtRest_18 : decode cX5_isAtRest 18 = .ok (.istore 4, 2) := by decide +kernel
theorem dX5_isAtRest_20 : decode cX5_isAtRest 20 = .ok (.iconst 0, 1) := by decide +kernel
theorem dX5_isAtRest_21 : decode cX5_isAtRest 21 = .ok (.istore 5, 2) := by decide +kernel
theorem dX5_isAtRest_23 : decode cX5_isAtRest 23 = .ok (.iload 5, 2) := by decide +kernel
theorem dX5_isAtRest_25 : decode cX5_isAtRest 25 = .ok (.iconst 1, 1) := by decide +kernel
theorem dX5_isAtRest_26 : decode cX5_isAtRest 26 = .ok (.aload_n 0, 1) := by decide +kernel
theorem dX5_isAtRest_27 : decode cX5_isAtRest 27 = .ok (.getfield 68, 3) := by decide +kernel
theorem dX5_isAtRest_30 : decode cX5_isAtRest 30 = .ok (.ishl, 1) := by decide +kernel
theorem dX5_isAtRest_31 : decode cX5_isAtRest 31 = .ok (.if_icmp .ge 42, 3) := by decide +kernel
theorem dX5_isAtRest_34 : decode cX5_isAtRest 34 = .ok (.aload_n 0, 1) := by decide +kernel
theorem dX5_isAtRest_35 : decode cX5_isAtRest 35 = .ok (.getfield 43, 3) := by decide +kernel
theorem dX5_isAtRest_38 : decode cX5_isAtRest 38 = .ok (.iload_n 1, 1) := by decide +kernel
theorem dX5_isAtRest_39 : decode cX5_isAtRest 39 = .ok (.iload 5, 2) := by decide +kernel
theorem dX5_isAtRest_41 : decode cX5_isAtRest 41 = .ok (.iastore, 1) := by decide +kernel
theorem dX5_isAtRest_42 : decode cX5_isAtRest 42 = .ok (.iload 4, 2) := by decide +kernel
theorem dX5_isAtRest_44 : decode cX5_isAtRest 44 = .ok (.ifCond .eq 20, 3) := by decide +kernel
theorem dX5_isAtRest_47 : decode cX5_isAtRest 47 = .ok (.aload_n 0, 1) := by decide +kernel
theorem dX5_isAtRest_48 : decode cX5_isAtRest 48 = .ok (.iload_n 1, 1) := by decide +kernel
theorem dX5_isAtRest_49 : decode cX5_isAtRest 49 = .ok (.aload_n 0, 1) := by decide +kernel
theorem dX5_isAtRest_50 : decode cX5_isAtRest 50 = .ok (.getfield 68, 3) := by decide +kernel
theorem dX5_isAtRest_53 : decode cX5_isAtRest 53 = .ok (.invokevirtual 155, 3) := by decide +kernel
theorem dX5_isAtRest_56 : decode cX5_isAtRest 56 = .ok (.iload_n 3, 1) := by decide +kernel
theorem dX5_isAtRest_57 : decode cX5_isAtRest 57 = .ok (.if_icmp .gt 7, 3) := by decide +kernel
theorem dX5_isAtRest_60 : decode cX5_isAtRest 60 = .ok (.iconst 1, 1) := by decide +kernel
theorem dX5_isAtRest_61 : decode cX5_isAtRest 61 = .ok (.goto 4, 3) := by decide +kernel
theorem dX5_isAtRest_64 : decode cX5_isAtRest 64 = .ok (.iconst 0, 1) := by decide +kernel
theorem dX5_isAtRest_65 : decode cX5_isAtRest 65 = .ok (.istore 4, 2) := by decide +kernel
theorem dX5_isAtRest_67 : decode cX5_isAtRest 67 = .ok (.iinc 5 1, 3) := by decide +kernel
theorem dX5_isAtRest_70 : decode cX5_isAtRest 70 = .ok (.goto (-47), 3) := by decide +kernel
theorem dX5_isAtRest_73 : decode cX5_isAtRest 73 = .ok (.aload_n 0, 1) := by decide +kernel
theorem dX5_isAtRest_74 : decode cX5_isAtRest 74 = .ok (.getfield 43, 3) := by decide +kernel
theorem dX5_isAtRest_77 : decode cX5_isAtRest 77 = .ok (.iload_n 1, 1) := by decide +kernel
theorem dX5_isAtRest_78 : decode cX5_isAtRest 78 = .ok (.iload_n 2, 1) := by decide +kernel
theorem dX5_isAtRest_79 : decode cX5_isAtRest 79 = .ok (.iastore, 1) := by decide +kernel
theorem dX5_isAtRest_80 : decode cX5_isAtRest 80 = .ok (.iload 4, 2) := by decide +kernel
theorem dX5_isAtRest_82 : decode cX5_isAtRest 82 = .ok (.ireturn, 1) := by decide +kernel
set_option maxRecDepth 20000 in
theorem ggX5_firstRestless_X5_isAtRest : GoodIn wsX5_firstRestless wsX5_isAtRest := goodIn_r _ [6, 7, 8, 9, 10, 11, 5, 12, 13, 14, 15, 16, 17, 1, 18, 19, 20, 21, 22, 23, 24, 25, 26, 27, 28, 29, 30, 31, 32, 33, 34, 35, 36, 37, 38, 39, 40, 41, 42, 43, 44, 45, 46, 47, 48, 49, 50, 51, 52, 53, 54, 55, 56, 57, 58, 59, 60, 61, 62, 63, 64, 65] (by decide +kernel) (by decide +kernel)
set_option maxRecDepth 20000 in
theorem gX5_firstRestless_X5_isAtRest : GoodIn wsX5_firstRestless (wsV RX5 166 RX5 yX5_isAtRest wsX5_isAtRest) := goodIn_app (goodIn_of _ (by decide +kernel)) ggX5_firstRestless_X5_isAtRest
theorem dX5_firstRestless_0 : decode cX5_firstRestless 0 = .ok (.iconst 0, 1) := by decide +kernel
theorem dX5_firstRestless_1 : decode cX5_firstRestless 1 = .ok (.istore_n 1, 1) := by decide +kernel
theorem dX5_firstRestless_2 : decode cX5_firstRestless 2 = .ok (.iload_n 1, 1) := by decide +kernel
theorem dX5_firstRestless_3 : decode cX5_firstRestless 3 = .ok (.aload_n 0, 1) := by decide +kernel
theorem dX5_firstRestless_4 : decode cX5_firstRestless 4 = .ok (.getfield 65, 3) := by decide +kernel
theorem dX5_firstRestless_7 : decode cX5_firstRestless 7 = .ok (.if_icmp .ge 19, 3) := by decide +kernel
theorem dX5_firstRestless_10 : decode cX5_firstRestless 10 = .ok (.aload_n 0, 1) := by decide +kernel
theorem dX5_firstRestless_11 : decode cX5_firstRestless 11 = .ok (.iload_n 1, 1) := by decide +kernel
theorem dX5_firstRestless_12 : decode cX5_firstRestless 12 = .ok (.invokevirtual 166, 3) := by decide +kernel
theorem dX5_firstRestless_15 : decode cX5_firstRestless 15 = .ok (.ifCond .ne 5, 3) := by decide +kernel
theorem dX5_firstRestless_18 : decode cX5_firstRestless 18 = .ok (.iload_n 1, 1) := by decide +kernel
theorem dX5_firstRestless_19 : decode cX5_firstRestless 19 = .ok (.ireturn, 1) := by decide +kernel
theorem dX5_firstRestless_20 : decode cX5_firstRestless 20 = .ok (.iinc 1 1, 3) := by decide +kernel
theorem dX5_firstRestless_23 : decode cX5_firstRestless 23 = .ok (.goto (-21), 3) := by decide +kernel
theorem dX5_firstRestless_26 : decode cX5_firstRestless 26 = .ok (.bipush (-9), 2) := by decide +kernel
theorem dX5_firstRestless_28 : decode cX5_firstRestless 28 = .ok (.ireturn, 1) := by decide +kernel
set_option maxRecDepth 20000 in
theorem ggX5_plan_X5_isSheet : GoodIn wsX5_plan wsX5_isSheet := goodIn_r _ [9, 10, 11, 8, 12] (by decide +kernel) (by decide +kernel)
set_option maxRecDepth 20000 in
theorem gX5_plan_X5_isSheet : GoodIn wsX5_plan (va_wsS RX5 74 yX5_isSheet wsX5_isSheet) := goodIn_app (goodIn_of _ (by decide +kernel)) ggX5_plan_X5_isSheet
set_option maxRecDepth 20000 in
theorem ggX5_plan_X5_isSort : GoodIn wsX5_plan wsX5_isSort := goodIn_r _ [15, 10, 11, 8, 12] (by decide +kernel) (by decide +kernel)
set_option maxRecDepth 20000 in
theorem gX5_plan_X5_isSort : GoodIn wsX5_plan (va_wsS RX5 78 yX5_isSort wsX5_isSort) := goodIn_app (goodIn_of _ (by decide +kernel)) ggX5_plan_X5_isSort
set_option maxRecDepth 20000 in
theorem ggX5_plan_X5_within : GoodIn wsX5_plan wsX5_within := goodIn_r _ [12] (by decide +kernel) (by decide +kernel)
set_option maxRecDepth 20000 in
theorem gX5_plan_X5_within : GoodIn wsX5_plan (va_wsS RX5 61 yX5_within wsX5_within) := goodIn_app (goodIn_of _ (by decide +kernel)) ggX5_plan_X5_within
set_option maxRecDepth 20000 in
theorem ggX5_plan_X5_against : GoodIn wsX5_plan wsX5_against := goodIn_r _ [19, 20, 21, 83, 84, 85, 86, 87, 88, 89, 90, 91, 92, 93, 94, 95, 96, 97, 98, 99, 100, 101, 102, 103, 104, 105, 106, 107, 108, 109] (by decide +kernel) (by decide +kernel)
set_option maxRecDepth 20000 in
theorem gX5_plan_X5_against : GoodIn wsX5_plan (wsV RX5 81 RX5 yX5_against wsX5_against) := goodIn_app (goodIn_of _ (by decide +kernel)) ggX5_plan_X5_against
set_option maxRecDepth 20000 in
theorem ggX5_plan_X5_fails : GoodIn wsX5_plan wsX5_fails := goodIn_r _ [25, 1, 83, 84, 85, 86, 87, 88, 89, 90, 91, 92, 93, 94, 95, 96, 97, 98, 99, 100, 101, 102, 103, 104, 105, 106, 107, 108, 109] (by decide +kernel) (by decide +kernel)
set_option maxRecDepth 20000 in
theorem gX5_plan_X5_fails : GoodIn wsX5_plan (wsV RX5 85 RX5 yX5_fails wsX5_fails) := goodIn_app (goodIn_of _ (by decide +kernel)) ggX5_plan_X5_fails
set_option maxRecDepth 20000 in
theorem ggX5_plan_X5_tellPlan : GoodIn wsX5_plan wsX5_tellPlan := goodIn_r _ [29, 2, 3, 30, 31, 32, 33, 8, 34, 35, 36, 37, 38, 39, 40, 41, 42, 43, 44, 45, 46, 47, 4, 48, 49, 50, 51, 52, 53, 54, 55, 56, 57, 58, 59, 60, 61, 62, 63, 64, 65, 66, 67, 68, 69, 70, 71, 72, 73, 74, 75, 76, 77, 78, 79, 80, 81, 82, 83, 84, 85, 86, 87, 88, 89, 90, 91, 92, 93, 94, 95, 96, 97, 98, 99, 100, 101, 102, 103, 104, 105, 106, 107, 108, 109] (by decide +kernel) (by decide +kernel)
set_option maxRecDepth 20000 in
theorem gX5_plan_X5_tellPlan : GoodIn wsX5_plan (wsV RX5 169 RX5 yX5_tellPlan wsX5_tellPlan) := goodIn_app (goodIn_of _ (by decide +kernel)) ggX5_plan_X5_tellPlan
theorem dX5_plan_0 : decode cX5_plan 0 = .ok (.aload_n 0, 1) := by decide +kernel
theorem dX5_plan_1 : decode cX5_plan 1 = .ok (.iconst 0, 1) := by decide +kernel
theorem dX5_plan_2 : decode cX5_plan 2 = .ok (.putfield 55, 3) := by decide +kernel
theorem dX5_plan_5 : decode cX5_plan 5 = .ok (.iload_n 1, 1) := by decide +kernel
theorem dX5_plan_6 : decode cX5_plan 6 = .ok (.invokestatic 74, 3) := by decide +kernel
theorem dX5_plan_9 : decode cX5_plan 9 = .ok (.ifCond .ne 5, 3) := by decide +kernel
theorem dX5_plan_12 : decode cX5_plan 12 = .ok (.iconst (-1), 1) := by decide +kernel
theorem dX5_plan_13 : decode cX5_plan 13 = .ok (.ireturn, 1) := by decide +kernel
theorem dX5_plan_14 : decode cX5_plan 14 = .ok (.iload_n 2, 1) := by decide +kernel
theorem dX5_plan_15 : decode cX5_plan 15 = .ok (.invokestatic 78, 3) := by decide +kernel
theorem dX5_plan_18 : decode cX5_plan 18 = .ok (.ifCond .eq 37, 3) := by decide +kernel
theorem dX5_plan_21 : decode cX5_plan 21 = .ok (.iload 5, 2) := by decide +kernel
theorem dX5_plan_23 : decode cX5_plan 23 = .ok (.iconst 0, 1) := by decide +kernel
theorem dX5_plan_24 : decode cX5_plan 24 = .ok (.iconst 3, 1) := by decide +kernel
theorem dX5_plan_25 : decode cX5_plan 25 = .ok (.invokestatic 61, 3) := by decide +kernel
theorem dX5_plan_28 : decode cX5_plan 28 = .ok (.ifCond .ne 30, 3) := by decide +kernel
theorem dX5_plan_31 : decode cX5_plan 31 = .ok (.iload 5, 2) := by decide +kernel
theorem dX5_plan_33 : decode cX5_plan 33 = .ok (.bipush 10, 2) := by decide +kernel
theorem dX5_plan_35 : decode cX5_plan 35 = .ok (.bipush 13, 2) := by decide +kernel
theorem dX5_plan_37 : decode cX5_plan 37 = .ok (.invokestatic 61, 3) := by decide +kernel
theorem dX5_plan_40 : decode cX5_plan 40 = .ok (.ifCond .ne 18, 3) := by decide +kernel
theorem dX5_plan_43 : decode cX5_plan 43 = .ok (.iload 5, 2) := by decide +kernel
theorem dX5_plan_45 : decode cX5_plan 45 = .ok (.bipush 20, 2) := by decide +kernel
theorem dX5_plan_47 : decode cX5_plan 47 = .ok (.bipush 24, 2) := by decide +kernel
theorem dX5_plan_49 : decode cX5_plan 49 = .ok (.invokestatic 61, 3) := by decide +kernel
theorem dX5_plan_52 : decode cX5_plan 52 = .ok (.ifCond .ne 6, 3) := by decide +kernel
theorem dX5_plan_55 : decode cX5_plan 55 = .ok (.bipush (-2), 2) := by decide +kernel
theorem dX5_plan_57 : decode cX5_plan 57 = .ok (.ireturn, 1) := by decide +kernel
theorem dX5_plan_58 : decode cX5_plan 58 = .ok (.aload_n 0, 1) := by decide +kernel
theorem dX5_plan_59 : decode cX5_plan 59 = .ok (.iload_n 1, 1) := by decide +kernel
theorem dX5_plan_60 : decode cX5_plan 60 = .ok (.iload_n 2, 1) := by decide +kernel
theorem dX5_plan_61 : decode cX5_plan 61 = .ok (.iload_n 3, 1) := by decide +kernel
theorem dX5_plan_62 : decode cX5_plan 62 = .ok (.iload 4, 2) := by decide +kernel
theorem dX5_plan_64 : decode cX5_plan 64 = .ok (.invokevirtual 81, 3) := by decide +kernel
theorem dX5_plan_67 : decode cX5_plan 67 = .ok (.istore 6, 2) := by decide +kernel
theorem dX5_plan_69 : decode cX5_plan 69 = .ok (.iload 6, 2) := by decide +kernel
theorem dX5_plan_71 : decode cX5_plan 71 = .ok (.ifCond .eq 10, 3) := by decide +kernel
theorem dX5_plan_74 : decode cX5_plan 74 = .ok (.aload_n 0, 1) := by decide +kernel
theorem dX5_plan_75 : decode cX5_plan 75 = .ok (.iload 6, 2) := by decide +kernel
theorem dX5_plan_77 : decode cX5_plan 77 = .ok (.invokevirtual 85, 3) := by decide +kernel
theorem dX5_plan_80 : decode cX5_plan 80 = .ok (.ireturn, 1) := by decide +kernel
theorem dX5_plan_81 : decode cX5_plan 81 = .ok (.aload_n 0, 1) := by decide +kernel
theorem dX5_plan_82 : decode cX5_plan 82 = .ok (.getfield 68, 3) := by decide +kernel
theorem dX5_plan_85 : decode cX5_plan 85 = .ok (.ifCond .ne 6, 3) := by decide +kernel
theorem dX5_plan_88 : decode cX5_plan 88 = .ok (.bipush (-3), 2) := by decide +kernel
theorem dX5_plan_90 : decode cX5_plan 90 = .ok (.ireturn, 1) := by decide +kernel
theorem dX5_plan_91 : decode cX5_plan 91 = .ok (.iload 4, 2) := by decide +kernel
theorem dX5_plan_93 : decode cX5_plan 93 = .ok (.aload_n 0, 1) := by decide +kernel
theorem dX5_plan_94 : decode cX5_plan 94 = .ok (.getfield 65, 3) := by decide +kernel
theorem dX5_plan_97 : decode cX5_plan 97 = .ok (.if_icmp .eq 6, 3) := by decide +kernel
theorem dX5_plan_100 : decode cX5_plan 100 = .ok (.bipush (-2), 2) := by decide +kernel
theorem dX5_plan_102 : decode cX5_plan 102 = .ok (.ireturn, 1) := by decide +kernel
theorem dX5_plan_103 : decode cX5_plan 103 = .ok (.iconst 0, 1) := by decide +kernel
theorem dX5_plan_104 : decode cX5_plan 104 = .ok (.istore 7, 2) := by decide +kernel
theorem dX5_plan_106 : decode cX5_plan 106 = .ok (.iload 7, 2) := by decide +kernel
theorem dX5_plan_108 : decode cX5_plan 108 = .ok (.iload 4, 2) := by decide +kernel
theorem dX5_plan_110 : decode cX5_plan 110 = .ok (.if_icmp .ge 55, 3) := by decide +kernel
theorem dX5_plan_113 : decode cX5_plan 113 = .ok (.aload_n 0, 1) := by decide +kernel
theorem dX5_plan_114 : decode cX5_plan 114 = .ok (.getfield 43, 3) := by decide +kernel
theorem dX5_plan_117 : decode cX5_plan 117 = .ok (.iload 7, 2) := by decide +kernel
theorem dX5_plan_119 : decode cX5_plan 119 = .ok (.aload_n 0, 1) := by decide +kernel
theorem dX5_plan_120 : decode cX5_plan 120 = .ok (.getfield 16, 3) := by decide +kernel
theorem dX5_plan_123 : decode cX5_plan 123 = .ok (.bipush 60, 2) := by decide +kernel
theorem dX5_plan_125 : decode cX5_plan 125 = .ok (.iload_n 1, 1) := by decide +kernel
theorem dX5_plan_126 : decode cX5_plan 126 = .ok (.imul, 1) := by decide +kernel
theorem dX5_plan_127 : decode cX5_plan 127 = .ok (.iload_n 3, 1) := by decide +kernel
theorem dX5_plan_128 : decode cX5_plan 128 = .ok (.iadd, 1) := by decide +kernel
theorem dX5_plan_129 : decode cX5_plan 129 = .ok (.iload 7, 2) := by decide +kernel
theorem dX5_plan_131 : decode cX5_plan 131 = .ok (.iadd, 1) := by decide +kernel
theorem dX5_plan_132 : decode cX5_plan 132 = .ok (.iaload, 1) := by decide +kernel
theorem dX5_plan_133 : decode cX5_plan 133 = .ok (.iastore, 1) := by decide +kernel
theorem dX5_plan_134 : decode cX5_plan 134 = .ok (.aload_n 0, 1) := by decide +kernel
theorem dX5_plan_135 : decode cX5_plan 135 = .ok (.getfield 43, 3) := by decide +kernel
theorem dX5_plan_138 : decode cX5_plan 138 = .ok (.iload 7, 2) := by decide +kernel
theorem dX5_plan_140 : decode cX5_plan 140 = .ok (.iaload, 1) := by decide +kernel
theorem dX5_plan_141 : decode cX5_plan 141 = .ok (.iconst 0, 1) := by decide +kernel
theorem dX5_plan_142 : decode cX5_plan 142 = .ok (.iconst 1, 1) := by decide +kernel
theorem dX5_plan_143 : decode cX5_plan 143 = .ok (.aload_n 0, 1) := by decide +kernel
theorem dX5_plan_144 : decode cX5_plan 144 = .ok (.getfield 68, 3) := by decide +kernel
theorem dX5_plan_147 : decode cX5_plan 147 = .ok (.ishl, 1) := by decide +kernel
theorem dX5_plan_148 : decode cX5_plan 148 = .ok (.iconst 1, 1) := by decide +kernel
theorem dX5_plan_149 : decode cX5_plan 149 = .ok (.isub, 1) := by decide +kernel
theorem dX5_plan_150 : decode cX5_plan 150 = .ok (.invokestatic 61, 3) := by decide +kernel
theorem dX5_plan_153 : decode cX5_plan 153 = .ok (.ifCond .ne 6, 3) := by decide +kernel
theorem dX5_plan_156 : decode cX5_plan 156 = .ok (.bipush (-2), 2) := by decide +kernel
theorem dX5_plan_158 : decode cX5_plan 158 = .ok (.ireturn, 1) := by decide +kernel
theorem dX5_plan_159 : decode cX5_plan 159 = .ok (.iinc 7 1, 3) := by decide +kernel
theorem dX5_plan_162 : decode cX5_plan 162 = .ok (.goto (-56), 3) := by decide +kernel
theorem dX5_plan_165 : decode cX5_plan 165 = .ok (.aload_n 0, 1) := by decide +kernel
theorem dX5_plan_166 : decode cX5_plan 166 = .ok (.iload 5, 2) := by decide +kernel
theorem dX5_plan_168 : decode cX5_plan 168 = .ok (.invokevirtual 169, 3) := by decide +kernel
theorem dX5_plan_171 : decode cX5_plan 171 = .ok (.ireturn, 1) := by decide +kernel
theorem dX5_size_0 : decode cX5_size 0 = .ok (.iconst 0, 1) := by decide +kernel
theorem dX5_size_1 : decode cX5_size 1 = .ok (.istore_n 1, 1) := by decide +kernel
theorem dX5_size_2 : decode cX5_size 2 = .ok (.iload_n 0, 1) := by decide +kernel
theorem dX5_size_3 : decode cX5_size 3 = .ok (.istore_n 2, 1) := by decide +kernel
theorem dX5_size_4 : decode cX5_size 4 = .ok (.iload_n 2, 1) := by decide +kernel
theorem dX5_size_5 : decode cX5_size 5 = .ok (.ifCond .le 16, 3) := by decide +kernel
theorem dX5_size_8 : decode cX5_size 8 = .ok (.iload_n 1, 1) := by decide +kernel
theorem dX5_size_9 : decode cX5_size 9 = .ok (.iload_n 2, 1) := by decide +kernel
theorem dX5_size_10 : decode cX5_size 10 = .ok (.iconst 1, 1) := by decide +kernel
theorem dX5_size_11 : decode cX5_size 11 = .ok (.iand, 1) := by decide +kernel
theorem dX5_size_12 : decode cX5_size 12 = .ok (.iadd, 1) := by decide +kernel
theorem dX5_size_13 : decode cX5_size 13 = .ok (.istore_n 1, 1) := by decide +kernel
theorem dX5_size_14 : decode cX5_size 14 = .ok (.iload_n 2, 1) := by decide +kernel
theorem dX5_size_15 : decode cX5_size 15 = .ok (.iconst 1, 1) := by decide +kernel
theorem dX5_size_16 : decode cX5_size 16 = .ok (.ishr, 1) := by decide +kernel
theorem dX5_size_17 : decode cX5_size 17 = .ok (.istore_n 2, 1) := by decide +kernel
theorem dX5_size_18 : decode cX5_size 18 = .ok (.goto (-14), 3) := by decide +kernel
theorem dX5_size_21 : decode cX5_size 21 = .ok (.iload_n 1, 1) := by decide +kernel
theorem dX5_size_22 : decode cX5_size 22 = .ok (.ireturn, 1) := by decide +kernel
set_option maxRecDepth 20000 in
theorem ggX5_tellPlan_X5_isDay : GoodIn wsX5_tellPlan wsX5_isDay := goodIn_r _ [8, 1, 58, 59, 60, 61, 62, 63, 64, 65, 66, 67, 68, 69, 70, 71, 72, 73, 74, 75, 76, 77, 78, 79, 80, 81, 82, 83, 84] (by decide +kernel) (by decide +kernel)
set_option maxRecDepth 20000 in
theorem gX5_tellPlan_X5_isDay : GoodIn wsX5_tellPlan (wsV RX5 136 RX5 yX5_isDay wsX5_isDay) := goodIn_app (goodIn_of _ (by decide +kernel)) ggX5_tellPlan_X5_isDay
set_option maxRecDepth 20000 in
theorem ggX5_tellPlan_X5_standsOn : GoodIn wsX5_tellPlan wsX5_standsOn := goodIn_r _ [12, 3, 2, 13, 14, 15, 16, 7, 17, 18, 19, 20, 21, 22, 23, 24, 25, 26, 27, 28, 58, 59, 60, 61, 62, 63, 64, 65, 66, 67, 68, 69, 70, 71, 72, 73, 74, 75, 76, 77, 78, 79, 80, 81, 82, 83, 84] (by decide +kernel) (by decide +kernel)
set_option maxRecDepth 20000 in
theorem gX5_tellPlan_X5_standsOn : GoodIn wsX5_tellPlan (wsV RX5 152 RX5 yX5_standsOn wsX5_standsOn) := goodIn_app (goodIn_of _ (by decide +kernel)) ggX5_tellPlan_X5_standsOn
set_option maxRecDepth 20000 in
theorem ggX5_tellPlan_X5_isPupil : GoodIn wsX5_tellPlan wsX5_isPupil := goodIn_r _ [32, 2, 58, 59, 60, 61, 62, 63, 64, 65, 66, 67, 68, 69, 70, 71, 72, 73, 74, 75, 76, 77, 78, 79, 80, 81, 82, 83, 84] (by decide +kernel) (by decide +kernel)
set_option maxRecDepth 20000 in
theorem gX5_tellPlan_X5_isPupil : GoodIn wsX5_tellPlan (wsV RX5 130 RX5 yX5_isPupil wsX5_isPupil) := goodIn_app (goodIn_of _ (by decide +kernel)) ggX5_tellPlan_X5_isPupil
set_option maxRecDepth 20000 in
theorem ggX5_tellPlan_X5_hoursBehind : GoodIn wsX5_tellPlan wsX5_hoursBehind := goodIn_r _ [36, 9, 10, 11, 7, 12, 3, 2, 13, 14, 15, 16, 17, 18, 19, 20, 21, 22, 23, 24, 25, 26, 27, 28, 37, 38, 39, 40, 41, 42, 58, 59, 60, 61, 62, 63, 64, 65, 66, 67, 68, 69, 70, 71, 72, 73, 74, 75, 76, 77, 78, 79, 80, 81, 82, 83, 84] (by decide +kernel) (by decide +kernel)
set_option maxRecDepth 20000 in
theorem gX5_tellPlan_X5_hoursBehind : GoodIn wsX5_tellPlan (wsV RX5 155 RX5 yX5_hoursBehind wsX5_hoursBehind) := goodIn_app (goodIn_of _ (by decide +kernel)) ggX5_tellPlan_X5_hoursBehind
set_option maxRecDepth 20000 in
theorem ggX5_tellPlan_X5_bishopNow : GoodIn wsX5_tellPlan wsX5_bishopNow := goodIn_r _ [46, 2, 1, 33, 34, 35, 7, 36, 9, 10, 11, 12, 3, 13, 14, 15, 16, 17, 18, 19, 20, 21, 22, 23, 24, 25, 26, 27, 28, 37, 38, 39, 40, 41, 42, 58, 59, 60, 61, 62, 63, 64, 65, 66, 67, 68, 69, 70, 71, 72, 73, 74, 75, 76, 77, 78, 79, 80, 81, 82, 83, 84] (by decide +kernel) (by decide +kernel)
set_option maxRecDepth 20000 in
theorem gX5_tellPlan_X5_bishopNow : GoodIn wsX5_tellPlan (wsV RX5 162 RX5 yX5_bishopNow wsX5_bishopNow) := goodIn_app (goodIn_of _ (by decide +kernel)) ggX5_tellPlan_X5_bishopNow
set_option maxRecDepth 20000 in
theorem ggX5_tellPlan_X5_firstRestless : GoodIn wsX5_tellPlan wsX5_firstRestless := goodIn_r _ [50, 2, 51, 52, 53, 7, 54, 22, 1, 33, 34, 35, 36, 9, 10, 11, 12, 3, 13, 14, 15, 16, 17, 18, 19, 20, 21, 23, 24, 25, 26, 27, 28, 37, 38, 39, 40, 41, 42, 58, 59, 60, 61, 62, 63, 64, 65, 66, 67, 68, 69, 70, 71, 72, 73, 74, 75, 76, 77, 78, 79, 80, 81, 82, 83, 84] (by decide +kernel) (by decide +kernel)
set_option maxRecDepth 20000 in
theorem gX5_tellPlan_X5_firstRestless : GoodIn wsX5_tellPlan (wsV RX5 172 RX5 yX5_firstRestless wsX5_firstRestless) := goodIn_app (goodIn_of _ (by decide +kernel)) ggX5_tellPlan_X5_firstRestless
set_option maxRecDepth 20000 in
theorem ggX5_tellPlan_X5_wouldsOn : GoodIn wsX5_tellPlan wsX5_wouldsOn := goodIn_r _ [17, 2, 18, 19, 20, 7, 21, 22, 23, 24, 25, 26, 13, 27, 28, 58, 59, 60, 61, 62, 63, 64, 65, 66, 67, 68, 69, 70, 71, 72, 73, 74, 75, 76, 77, 78, 79, 80, 81, 82, 83, 84] (by decide +kernel) (by decide +kernel)
set_option maxRecDepth 20000 in
theorem gX5_tellPlan_X5_wouldsOn : GoodIn wsX5_tellPlan (wsV RX5 149 RX5 yX5_wouldsOn wsX5_wouldsOn) := goodIn_app (goodIn_of _ (by decide +kernel)) ggX5_tellPlan_X5_wouldsOn
set_option maxRecDepth 20000 in
theorem ggX5_tellPlan_X5_size : GoodIn wsX5_tellPlan wsX5_size := goodIn_r _ [57] (by decide +kernel) (by decide +kernel)
set_option maxRecDepth 20000 in
theorem gX5_tellPlan_X5_size : GoodIn wsX5_tellPlan (va_wsS RX5 175 yX5_size wsX5_size) := goodIn_app (goodIn_of _ (by decide +kernel)) ggX5_tellPlan_X5_size
theorem dX5_tellPlan_0 : decode cX5_tellPlan 0 = .ok (.iload_n 1, 1) := by decide +kernel
theorem dX5_tellPlan_1 : decode cX5_tellPlan 1 = .ok (.bipush 20, 2) := by decide +kernel
theorem dX5_tellPlan_3 : decode cX5_tellPlan 3 = .ok (.if_icmp .lt 28, 3) := by decide +kernel
theorem dX5_tellPlan_6 : decode cX5_tellPlan 6 = .ok (.aload_n 0, 1) := by decide +kernel
theorem dX5_tellPlan_7 : decode cX5_tellPlan 7 = .ok (.iload_n 1, 1) := by decide +kernel
theorem dX5_tellPlan_8 : decode cX5_tellPlan 8 = .ok (.bipush 20, 2) := by decide +kernel
theorem dX5_tellPlan_10 : decode cX5_tellPlan 10 = .ok (.isub, 1) := by decide +kernel
theorem dX5_tellPlan_11 : decode cX5_tellPlan 11 = .ok (.invokevirtual 136, 3) := by decide +kernel
theorem dX5_tellPlan_14 : decode cX5_tellPlan 14 = .ok (.ifCond .eq 14, 3) := by decide +kernel
theorem dX5_tellPlan_17 : decode cX5_tellPlan 17 = .ok (.aload_n 0, 1) := by decide +kernel
theorem dX5_tellPlan_18 : decode cX5_tellPlan 18 = .ok (.iload_n 1, 1) := by decide +kernel
theorem dX5_tellPlan_19 : decode cX5_tellPlan 19 = .ok (.bipush 20, 2) := by decide +kernel
theorem dX5_tellPlan_21 : decode cX5_tellPlan 21 = .ok (.isub, 1) := by decide +kernel
theorem dX5_tellPlan_22 : decode cX5_tellPlan 22 = .ok (.invokevirtual 152, 3) := by decide +kernel
theorem dX5_tellPlan_25 : decode cX5_tellPlan 25 = .ok (.goto 5, 3) := by decide +kernel
theorem dX5_tellPlan_28 : decode cX5_tellPlan 28 = .ok (.bipush (-9), 2) := by decide +kernel
theorem dX5_tellPlan_30 : decode cX5_tellPlan 30 = .ok (.ireturn, 1) := by decide +kernel
theorem dX5_tellPlan_31 : decode cX5_tellPlan 31 = .ok (.iload_n 1, 1) := by decide +kernel
theorem dX5_tellPlan_32 : decode cX5_tellPlan 32 = .ok (.bipush 10, 2) := by decide +kernel
theorem dX5_tellPlan_34 : decode cX5_tellPlan 34 = .ok (.if_icmp .lt 32, 3) := by decide +kernel
theorem dX5_tellPlan_37 : decode cX5_tellPlan 37 = .ok (.aload_n 0, 1) := by decide +kernel
theorem dX5_tellPlan_38 : decode cX5_tellPlan 38 = .ok (.iload_n 1, 1) := by decide +kernel
theorem dX5_tellPlan_39 : decode cX5_tellPlan 39 = .ok (.bipush 10, 2) := by decide +kernel
theorem dX5_tellPlan_41 : decode cX5_tellPlan 41 = .ok (.isub, 1) := by decide +kernel
theorem dX5_tellPlan_42 : decode cX5_tellPlan 42 = .ok (.invokevirtual 130, 3) := by decide +kernel
theorem dX5_tellPlan_45 : decode cX5_tellPlan 45 = .ok (.ifCond .eq 18, 3) := by decide +kernel
theorem dX5_tellPlan_48 : decode cX5_tellPlan 48 = .ok (.aload_n 0, 1) := by decide +kernel
theorem dX5_tellPlan_49 : decode cX5_tellPlan 49 = .ok (.iload_n 1, 1) := by decide +kernel
theorem dX5_tellPlan_50 : decode cX5_tellPlan 50 = .ok (.bipush 10, 2) := by decide +kernel
theorem dX5_tellPlan_52 : decode cX5_tellPlan 52 = .ok (.isub, 1) := by decide +kernel
theorem dX5_tellPlan_53 : decode cX5_tellPlan 53 = .ok (.aload_n 0, 1) := by decide +kernel
theorem dX5_tellPlan_54 : decode cX5_tellPlan 54 = .ok (.getfield 68, 3) := by decide +kernel
theorem dX5_tellPlan_57 : decode cX5_tellPlan 57 = .ok (.invokevirtual 155, 3) := by decide +kernel
theorem dX5_tellPlan_60 : decode cX5_tellPlan 60 = .ok (.goto 5, 3) := by decide +kernel
theorem dX5_tellPlan_63 : decode cX5_tellPlan 63 = .ok (.bipush (-9), 2) := by decide +kernel
theorem dX5_tellPlan_65 : decode cX5_tellPlan 65 = .ok (.ireturn, 1) := by decide +kernel
theorem dX5_tellPlan_66 : decode cX5_tellPlan 66 = .ok (.iload_n 1, 1) := by decide +kernel
theorem dX5_tellPlan_67 : decode cX5_tellPlan 67 = .ok (.iconst 2, 1) := by decide +kernel
theorem dX5_tellPlan_68 : decode cX5_tellPlan 68 = .ok (.if_icmp .ge 19, 3) := by decide +kernel
theorem dX5_tellPlan_71 : decode cX5_tellPlan 71 = .ok (.iload_n 1, 1) := by decide +kernel
theorem dX5_tellPlan_72 : decode cX5_tellPlan 72 = .ok (.ifCond .ne 10, 3) := by decide +kernel
theorem dX5_tellPlan_75 : decode cX5_tellPlan 75 = .ok (.aload_n 0, 1) := by decide +kernel
theorem dX5_tellPlan_76 : decode cX5_tellPlan 76 = .ok (.invokevirtual 162, 3) := by decide +kernel
theorem dX5_tellPlan_79 : decode cX5_tellPlan 79 = .ok (.goto 7, 3) := by decide +kernel
theorem dX5_tellPlan_82 : decode cX5_tellPlan 82 = .ok (.aload_n 0, 1) := by decide +kernel
theorem dX5_tellPlan_83 : decode cX5_tellPlan 83 = .ok (.invokevirtual 172, 3) := by decide +kernel
theorem dX5_tellPlan_86 : decode cX5_tellPlan 86 = .ok (.ireturn, 1) := by decide +kernel
theorem dX5_tellPlan_87 : decode cX5_tellPlan 87 = .ok (.iconst 0, 1) := by decide +kernel
theorem dX5_tellPlan_88 : decode cX5_tellPlan 88 = .ok (.istore_n 2, 1) := by decide +kernel
theorem dX5_tellPlan_89 : decode cX5_tellPlan 89 = .ok (.iconst 0, 1) := by decide +kernel
theorem dX5_tellPlan_90 : decode cX5_tellPlan 90 = .ok (.istore_n 3, 1) := by decide +kernel
theorem dX5_tellPlan_91 : decode cX5_tellPlan 91 = .ok (.iload_n 3, 1) := by decide +kernel
theorem dX5_tellPlan_92 : decode cX5_tellPlan 92 = .ok (.aload_n 0, 1) := by decide +kernel
theorem dX5_tellPlan_93 : decode cX5_tellPlan 93 = .ok (.getfield 65, 3) := by decide +kernel
theorem dX5_tellPlan_96 : decode cX5_tellPlan 96 = .ok (.if_icmp .ge 21, 3) := by decide +kernel
theorem dX5_tellPlan_99 : decode cX5_tellPlan 99 = .ok (.iload_n 2, 1) := by decide +kernel
theorem dX5_tellPlan_100 : decode cX5_tellPlan 100 = .ok (.aload_n 0, 1) := by decide +kernel
theorem dX5_tellPlan_101 : decode cX5_tellPlan 101 = .ok (.iload_n 3, 1) := by decide +kernel
theorem dX5_tellPlan_102 : decode cX5_tellPlan 102 = .ok (.aload_n 0, 1) := by decide +kernel
theorem dX5_tellPlan_103 : decode cX5_tellPlan 103 = .ok (.getfield 68, 3) := by decide +kernel
theorem dX5_tellPlan_106 : decode cX5_tellPlan 106 = .ok (.invokevirtual 155, 3) := by decide +kernel
theorem dX5_tellPlan_109 : decode cX5_tellPlan 109 = .ok (.iadd, 1) := by decide +kernel
theorem dX5_tellPlan_110 : decode cX5_tellPlan 110 = .ok (.istore_n 2, 1) := by decide +kernel
theorem dX5_tellPlan_111 : decode cX5_tellPlan 111 = .ok (.iinc 3 1, 3) := by decide +kernel
theorem dX5_tellPlan_114 : decode cX5_tellPlan 114 = .ok (.goto (-23), 3) := by decide +kernel
theorem dX5_tellPlan_117 : decode cX5_tellPlan 117 = .ok (.iconst 0, 1) := by decide +kernel
theorem dX5_tellPlan_118 : decode cX5_tellPlan 118 = .ok (.istore_n 3, 1) := by decide +kernel
theorem dX5_tellPlan_119 : decode cX5_tellPlan 119 = .ok (.iconst 0, 1) := by decide +kernel
theorem dX5_tellPlan_120 : decode cX5_tellPlan 120 = .ok (.istore 4, 2) := by decide +kernel
theorem dX5_tellPlan_122 : decode cX5_tellPlan 122 = .ok (.iload 4, 2) := by decide +kernel
theorem dX5_tellPlan_124 : decode cX5_tellPlan 124 = .ok (.aload_n 0, 1) := by decide +kernel
theorem dX5_tellPlan_125 : decode cX5_tellPlan 125 = .ok (.getfield 68, 3) := by decide +kernel
theorem dX5_tellPlan_128 : decode cX5_tellPlan 128 = .ok (.if_icmp .ge 36, 3) := by decide +kernel
theorem dX5_tellPlan_131 : decode cX5_tellPlan 131 = .ok (.iload_n 3, 1) := by decide +kernel
theorem dX5_tellPlan_132 : decode cX5_tellPlan 132 = .ok (.aload_n 0, 1) := by decide +kernel
theorem dX5_tellPlan_133 : decode cX5_tellPlan 133 = .ok (.iload 4, 2) := by decide +kernel
theorem dX5_tellPlan_135 : decode cX5_tellPlan 135 = .ok (.invokevirtual 149, 3) := by decide +kernel
theorem dX5_tellPlan_138 : decode cX5_tellPlan 138 = .ok (.invokestatic 175, 3) := by decide +kernel
theorem dX5_tellPlan_141 : decode cX5_tellPlan 141 = .ok (.aload_n 0, 1) := by decide +kernel
theorem dX5_tellPlan_142 : decode cX5_tellPlan 142 = .ok (.getfield 104, 3) := by decide +kernel
theorem dX5_tellPlan_145 : decode cX5_tellPlan 145 = .ok (.if_icmp .le 10, 3) := by decide +kernel
theorem dX5_tellPlan_148 : decode cX5_tellPlan 148 = .ok (.iconst 1, 1) := by decide +kernel
theorem dX5_tellPlan_149 : decode cX5_tellPlan 149 = .ok (.iload 4, 2) := by decide +kernel
theorem dX5_tellPlan_151 : decode cX5_tellPlan 151 = .ok (.ishl, 1) := by decide +kernel
theorem dX5_tellPlan_152 : decode cX5_tellPlan 152 = .ok (.goto 4, 3) := by decide +kernel
theorem dX5_tellPlan_155 : decode cX5_tellPlan 155 = .ok (.iconst 0, 1) := by decide +kernel
theorem dX5_tellPlan_156 : decode cX5_tellPlan 156 = .ok (.ior, 1) := by decide +kernel
theorem dX5_tellPlan_157 : decode cX5_tellPlan 157 = .ok (.istore_n 3, 1) := by decide +kernel
theorem dX5_tellPlan_158 : decode cX5_tellPlan 158 = .ok (.iinc 4 1, 3) := by decide +kernel
theorem dX5_tellPlan_161 : decode cX5_tellPlan 161 = .ok (.goto (-39), 3) := by decide +kernel
theorem dX5_tellPlan_164 : decode cX5_tellPlan 164 = .ok (.iload_n 1, 1) := by decide +kernel
theorem dX5_tellPlan_165 : decode cX5_tellPlan 165 = .ok (.iconst 2, 1) := by decide +kernel
theorem dX5_tellPlan_166 : decode cX5_tellPlan 166 = .ok (.if_icmp .ne 7, 3) := by decide +kernel
theorem dX5_tellPlan_169 : decode cX5_tellPlan 169 = .ok (.iload_n 2, 1) := by decide +kernel
theorem dX5_tellPlan_170 : decode cX5_tellPlan 170 = .ok (.goto 4, 3) := by decide +kernel
theorem dX5_tellPlan_173 : decode cX5_tellPlan 173 = .ok (.iload_n 3, 1) := by decide +kernel
theorem dX5_tellPlan_174 : decode cX5_tellPlan 174 = .ok (.ireturn, 1) := by decide +kernel
set_option maxRecDepth 20000 in
theorem ggX5_best_X5_isPupil : GoodIn wsX5_best wsX5_isPupil := goodIn_r _ [7, 8, 50, 51, 52, 53, 54, 55, 56, 57, 58, 59, 60, 61, 62, 63, 64, 65, 66, 67, 68, 69, 70, 71, 72, 73, 74, 75, 76] (by decide +kernel) (by decide +kernel)
set_option maxRecDepth 20000 in
theorem gX5_best_X5_isPupil : GoodIn wsX5_best (wsV RX5 130 RX5 yX5_isPupil wsX5_isPupil) := goodIn_app (goodIn_of _ (by decide +kernel)) ggX5_best_X5_isPupil
set_option maxRecDepth 20000 in
theorem ggX5_best_X5_nobody : GoodIn wsX5_best wsX5_nobody := goodIn_r _ [12, 2, 50, 51, 52, 53, 54, 55, 56, 57, 58, 59, 60, 61, 62, 63, 64, 65, 66, 67, 68, 69, 70, 71, 72, 73, 74, 75, 76] (by decide +kernel) (by decide +kernel)
set_option maxRecDepth 20000 in
theorem gX5_best_X5_nobody : GoodIn wsX5_best (wsV RX5 159 RX5 yX5_nobody wsX5_nobody) := goodIn_app (goodIn_of _ (by decide +kernel)) ggX5_best_X5_nobody
set_option maxRecDepth 20000 in
theorem ggX5_best_X5_size : GoodIn wsX5_best wsX5_size := goodIn_r _ [15] (by decide +kernel) (by decide +kernel)
set_option maxRecDepth 20000 in
theorem gX5_best_X5_size : GoodIn wsX5_best (va_wsS RX5 175 yX5_size wsX5_size) := goodIn_app (goodIn_of _ (by decide +kernel)) ggX5_best_X5_size
set_option maxRecDepth 20000 in
theorem ggX5_best_X5_bishopNow : GoodIn wsX5_best wsX5_bishopNow := goodIn_r _ [19, 8, 1, 20, 21, 22, 6, 23, 24, 25, 26, 27, 28, 29, 30, 31, 32, 33, 34, 35, 36, 37, 2, 38, 39, 40, 41, 42, 43, 44, 45, 46, 47, 48, 49, 50, 51, 52, 53, 54, 55, 56, 57, 58, 59, 60, 61, 62, 63, 64, 65, 66, 67, 68, 69, 70, 71, 72, 73, 74, 75, 76] (by decide +kernel) (by decide +kernel)
set_option maxRecDepth 20000 in
theorem gX5_best_X5_bishopNow : GoodIn wsX5_best (wsV RX5 162 RX5 yX5_bishopNow wsX5_bishopNow) := goodIn_app (goodIn_of _ (by decide +kernel)) ggX5_best_X5_bishopNow
theorem dX5_best_0 : decode cX5_best 0 = .ok (.aload_n 0, 1) := by decide +kernel
theorem dX5_best_1 : decode cX5_best 1 = .ok (.iload_n 1, 1) := by decide +kernel
theorem dX5_best_2 : decode cX5_best 2 = .ok (.invokevirtual 130, 3) := by decide +kernel
theorem dX5_best_5 : decode cX5_best 5 = .ok (.ifCond .ne 5, 3) := by decide +kernel
theorem dX5_best_8 : decode cX5_best 8 = .ok (.iconst (-1), 1) := by decide +kernel
theorem dX5_best_9 : decode cX5_best 9 = .ok (.ireturn, 1) := by decide +kernel
theorem dX5_best_10 : decode cX5_best 10 = .ok (.aload_n 0, 1) := by decide +kernel
theorem dX5_best_11 : decode cX5_best 11 = .ok (.invokevirtual 159, 3) := by decide +kernel
theorem dX5_best_14 : decode cX5_best 14 = .ok (.bipush (-9), 2) := by decide +kernel
theorem dX5_best_16 : decode cX5_best 16 = .ok (.istore_n 2, 1) := by decide +kernel
theorem dX5_best_17 : decode cX5_best 17 = .ok (.iconst 0, 1) := by decide +kernel
theorem dX5_best_18 : decode cX5_best 18 = .ok (.istore_n 3, 1) := by decide +kernel
theorem dX5_best_19 : decode cX5_best 19 = .ok (.iload_n 3, 1) := by decide +kernel
theorem dX5_best_20 : decode cX5_best 20 = .ok (.iconst 1, 1) := by decide +kernel
theorem dX5_best_21 : decode cX5_best 21 = .ok (.aload_n 0, 1) := by decide +kernel
theorem dX5_best_22 : decode cX5_best 22 = .ok (.getfield 68, 3) := by decide +kernel
theorem dX5_best_25 : decode cX5_best 25 = .ok (.ishl, 1) := by decide +kernel
theorem dX5_best_26 : decode cX5_best 26 = .ok (.if_icmp .ge 43, 3) := by decide +kernel
theorem dX5_best_29 : decode cX5_best 29 = .ok (.aload_n 0, 1) := by decide +kernel
theorem dX5_best_30 : decode cX5_best 30 = .ok (.getfield 43, 3) := by decide +kernel
theorem dX5_best_33 : decode cX5_best 33 = .ok (.iload_n 1, 1) := by decide +kernel
theorem dX5_best_34 : decode cX5_best 34 = .ok (.iload_n 3, 1) := by decide +kernel
theorem dX5_best_35 : decode cX5_best 35 = .ok (.iastore, 1) := by decide +kernel
theorem dX5_best_36 : decode cX5_best 36 = .ok (.iload_n 2, 1) := by decide +kernel
theorem dX5_best_37 : decode cX5_best 37 = .ok (.bipush (-9), 2) := by decide +kernel
theorem dX5_best_39 : decode cX5_best 39 = .ok (.if_icmp .eq 14, 3) := by decide +kernel
theorem dX5_best_42 : decode cX5_best 42 = .ok (.iload_n 3, 1) := by decide +kernel
theorem dX5_best_43 : decode cX5_best 43 = .ok (.invokestatic 175, 3) := by decide +kernel
theorem dX5_best_46 : decode cX5_best 46 = .ok (.iload_n 2, 1) := by decide +kernel
theorem dX5_best_47 : decode cX5_best 47 = .ok (.invokestatic 175, 3) := by decide +kernel
theorem dX5_best_50 : decode cX5_best 50 = .ok (.if_icmp .ge 13, 3) := by decide +kernel
theorem dX5_best_53 : decode cX5_best 53 = .ok (.aload_n 0, 1) := by decide +kernel
theorem dX5_best_54 : decode cX5_best 54 = .ok (.invokevirtual 162, 3) := by decide +kernel
theorem dX5_best_57 : decode cX5_best 57 = .ok (.iload_n 1, 1) := by decide +kernel
theorem dX5_best_58 : decode cX5_best 58 = .ok (.if_icmp .ne 5, 3) := by decide +kernel
theorem dX5_best_61 : decode cX5_best 61 = .ok (.iload_n 3, 1) := by decide +kernel
theorem dX5_best_62 : decode cX5_best 62 = .ok (.istore_n 2, 1) := by decide +kernel
theorem dX5_best_63 : decode cX5_best 63 = .ok (.iinc 3 1, 3) := by decide +kernel
theorem dX5_best_66 : decode cX5_best 66 = .ok (.goto (-47), 3) := by decide +kernel
theorem dX5_best_69 : decode cX5_best 69 = .ok (.iload_n 2, 1) := by decide +kernel
theorem dX5_best_70 : decode cX5_best 70 = .ok (.ireturn, 1) := by decide +kernel
set_option maxRecDepth 20000 in
theorem ggX5_choose_X5_isPupil : GoodIn wsX5_choose wsX5_isPupil := goodIn_r _ [6, 7, 51, 52, 53, 54, 55, 56, 57, 58, 59, 60, 61, 62, 63, 64, 65, 66, 67, 68, 69, 70, 71, 72, 73, 74, 75, 76, 77] (by decide +kernel) (by decide +kernel)
set_option maxRecDepth 20000 in
theorem gX5_choose_X5_isPupil : GoodIn wsX5_choose (wsV RX5 130 RX5 yX5_isPupil wsX5_isPupil) := goodIn_app (goodIn_of _ (by decide +kernel)) ggX5_choose_X5_isPupil
set_option maxRecDepth 20000 in
theorem ggX5_choose_X5_isDay : GoodIn wsX5_choose wsX5_isDay := goodIn_r _ [11, 12, 51, 52, 53, 54, 55, 56, 57, 58, 59, 60, 61, 62, 63, 64, 65, 66, 67, 68, 69, 70, 71, 72, 73, 74, 75, 76, 77] (by decide +kernel) (by decide +kernel)
set_option maxRecDepth 20000 in
theorem gX5_choose_X5_isDay : GoodIn wsX5_choose (wsV RX5 136 RX5 yX5_isDay wsX5_isDay) := goodIn_app (goodIn_of _ (by decide +kernel)) ggX5_choose_X5_isDay
set_option maxRecDepth 20000 in
theorem ggX5_choose_X5_nobody : GoodIn wsX5_choose wsX5_nobody := goodIn_r _ [16, 17, 51, 52, 53, 54, 55, 56, 57, 58, 59, 60, 61, 62, 63, 64, 65, 66, 67, 68, 69, 70, 71, 72, 73, 74, 75, 76, 77] (by decide +kernel) (by decide +kernel)
set_option maxRecDepth 20000 in
theorem gX5_choose_X5_nobody : GoodIn wsX5_choose (wsV RX5 159 RX5 yX5_nobody wsX5_nobody) := goodIn_app (goodIn_of _ (by decide +kernel)) ggX5_choose_X5_nobody
set_option maxRecDepth 20000 in
theorem ggX5_choose_X5_bishopNow : GoodIn wsX5_choose wsX5_bishopNow := goodIn_r _ [21, 7, 12, 22, 23, 24, 5, 25, 26, 27, 28, 29, 30, 31, 32, 33, 34, 35, 36, 37, 38, 39, 17, 40, 41, 42, 43, 1, 44, 45, 46, 47, 48, 49, 50, 51, 52, 53, 54, 55, 56, 57, 58, 59, 60, 61, 62, 63, 64, 65, 66, 67, 68, 69, 70, 71, 72, 73, 74, 75, 76, 77] (by decide +kernel) (by decide +kernel)
set_option maxRecDepth 20000 in
theorem gX5_choose_X5_bishopNow : GoodIn wsX5_choose (wsV RX5 162 RX5 yX5_bishopNow wsX5_bishopNow) := goodIn_app (goodIn_of _ (by decide +kernel)) ggX5_choose_X5_bishopNow
theorem dX5_choose_0 : decode cX5_choose 0 = .ok (.aload_n 0, 1) := by decide +kernel
theorem dX5_choose_1 : decode cX5_choose 1 = .ok (.iload_n 1, 1) := by decide +kernel
theorem dX5_choose_2 : decode cX5_choose 2 = .ok (.invokevirtual 130, 3) := by decide +kernel
theorem dX5_choose_5 : decode cX5_choose 5 = .ok (.ifCond .eq 11, 3) := by decide +kernel
theorem dX5_choose_8 : decode cX5_choose 8 = .ok (.aload_n 0, 1) := by decide +kernel
theorem dX5_choose_9 : decode cX5_choose 9 = .ok (.iload_n 2, 1) := by decide +kernel
theorem dX5_choose_10 : decode cX5_choose 10 = .ok (.invokevirtual 136, 3) := by decide +kernel
theorem dX5_choose_13 : decode cX5_choose 13 = .ok (.ifCond .ne 5, 3) := by decide +kernel
theorem dX5_choose_16 : decode cX5_choose 16 = .ok (.iconst (-1), 1) := by decide +kernel
theorem dX5_choose_17 : decode cX5_choose 17 = .ok (.ireturn, 1) := by decide +kernel
theorem dX5_choose_18 : decode cX5_choose 18 = .ok (.aload_n 0, 1) := by decide +kernel
theorem dX5_choose_19 : decode cX5_choose 19 = .ok (.invokevirtual 159, 3) := by decide +kernel
theorem dX5_choose_22 : decode cX5_choose 22 = .ok (.aload_n 0, 1) := by decide +kernel
theorem dX5_choose_23 : decode cX5_choose 23 = .ok (.getfield 19, 3) := by decide +kernel
theorem dX5_choose_26 : decode cX5_choose 26 = .ok (.iload_n 2, 1) := by decide +kernel
theorem dX5_choose_27 : decode cX5_choose 27 = .ok (.iaload, 1) := by decide +kernel
theorem dX5_choose_28 : decode cX5_choose 28 = .ok (.istore_n 3, 1) := by decide +kernel
theorem dX5_choose_29 : decode cX5_choose 29 = .ok (.bipush (-9), 2) := by decide +kernel
theorem dX5_choose_31 : decode cX5_choose 31 = .ok (.istore 4, 2) := by decide +kernel
theorem dX5_choose_33 : decode cX5_choose 33 = .ok (.bipush 9, 2) := by decide +kernel
theorem dX5_choose_35 : decode cX5_choose 35 = .ok (.istore 5, 2) := by decide +kernel
theorem dX5_choose_37 : decode cX5_choose 37 = .ok (.iload 5, 2) := by decide +kernel
theorem dX5_choose_39 : decode cX5_choose 39 = .ok (.ifCond .lt 34, 3) := by decide +kernel
theorem dX5_choose_42 : decode cX5_choose 42 = .ok (.aload_n 0, 1) := by decide +kernel
theorem dX5_choose_43 : decode cX5_choose 43 = .ok (.getfield 19, 3) := by decide +kernel
theorem dX5_choose_46 : decode cX5_choose 46 = .ok (.iload_n 2, 1) := by decide +kernel
theorem dX5_choose_47 : decode cX5_choose 47 = .ok (.iload 5, 2) := by decide +kernel
theorem dX5_choose_49 : decode cX5_choose 49 = .ok (.iastore, 1) := by decide +kernel
theorem dX5_choose_50 : decode cX5_choose 50 = .ok (.aload_n 0, 1) := by decide +kernel
theorem dX5_choose_51 : decode cX5_choose 51 = .ok (.invokevirtual 162, 3) := by decide +kernel
theorem dX5_choose_54 : decode cX5_choose 54 = .ok (.iload_n 1, 1) := by decide +kernel
theorem dX5_choose_55 : decode cX5_choose 55 = .ok (.if_icmp .ne 8, 3) := by decide +kernel
theorem dX5_choose_58 : decode cX5_choose 58 = .ok (.iload 5, 2) := by decide +kernel
theorem dX5_choose_60 : decode cX5_choose 60 = .ok (.goto 5, 3) := by decide +kernel
theorem dX5_choose_63 : decode cX5_choose 63 = .ok (.iload 4, 2) := by decide +kernel
theorem dX5_choose_65 : decode cX5_choose 65 = .ok (.istore 4, 2) := by decide +kernel
theorem dX5_choose_67 : decode cX5_choose 67 = .ok (.iinc 5 (-1), 3) := by decide +kernel
theorem dX5_choose_70 : decode cX5_choose 70 = .ok (.goto (-33), 3) := by decide +kernel
theorem dX5_choose_73 : decode cX5_choose 73 = .ok (.aload_n 0, 1) := by decide +kernel
theorem dX5_choose_74 : decode cX5_choose 74 = .ok (.getfield 19, 3) := by decide +kernel
theorem dX5_choose_77 : decode cX5_choose 77 = .ok (.iload_n 2, 1) := by decide +kernel
theorem dX5_choose_78 : decode cX5_choose 78 = .ok (.iload_n 3, 1) := by decide +kernel
theorem dX5_choose_79 : decode cX5_choose 79 = .ok (.iastore, 1) := by decide +kernel
theorem dX5_choose_80 : decode cX5_choose 80 = .ok (.iload 4, 2) := by decide +kernel
theorem dX5_choose_82 : decode cX5_choose 82 = .ok (.ireturn, 1) := by decide +kernel
set_option maxRecDepth 20000 in
theorem ggX5_reading_X5_isPupil : GoodIn wsX5_reading wsX5_isPupil := goodIn_r _ [10, 11, 15, 16, 17, 18, 19, 20, 21, 22, 23, 24, 25, 26, 27, 28, 29, 30, 31, 32, 33, 34, 35, 36, 37, 38, 39, 40, 41] (by decide +kernel) (by decide +kernel)
set_option maxRecDepth 20000 in
theorem gX5_reading_X5_isPupil : GoodIn wsX5_reading (wsV RX5 130 RX5 yX5_isPupil wsX5_isPupil) := goodIn_app (goodIn_of _ (by decide +kernel)) ggX5_reading_X5_isPupil
set_option maxRecDepth 20000 in
theorem ggX5_reading_X5_within : GoodIn wsX5_reading wsX5_within := goodIn_r _ [14] (by decide +kernel) (by decide +kernel)
set_option maxRecDepth 20000 in
theorem gX5_reading_X5_within : GoodIn wsX5_reading (va_wsS RX5 61 yX5_within wsX5_within) := goodIn_app (goodIn_of _ (by decide +kernel)) ggX5_reading_X5_within
theorem dX5_reading_0 : decode cX5_reading 0 = .ok (.aload_n 0, 1) := by decide +kernel
theorem dX5_reading_1 : decode cX5_reading 1 = .ok (.iload_n 1, 1) := by decide +kernel
theorem dX5_reading_2 : decode cX5_reading 2 = .ok (.invokevirtual 130, 3) := by decide +kernel
theorem dX5_reading_5 : decode cX5_reading 5 = .ok (.ifCond .ne 5, 3) := by decide +kernel
theorem dX5_reading_8 : decode cX5_reading 8 = .ok (.iconst (-1), 1) := by decide +kernel
theorem dX5_reading_9 : decode cX5_reading 9 = .ok (.ireturn, 1) := by decide +kernel
theorem dX5_reading_10 : decode cX5_reading 10 = .ok (.iload_n 2, 1) := by decide +kernel
theorem dX5_reading_11 : decode cX5_reading 11 = .ok (.iconst 0, 1) := by decide +kernel
theorem dX5_reading_12 : decode cX5_reading 12 = .ok (.aload_n 0, 1) := by decide +kernel
theorem dX5_reading_13 : decode cX5_reading 13 = .ok (.getfield 68, 3) := by decide +kernel
theorem dX5_reading_16 : decode cX5_reading 16 = .ok (.invokestatic 61, 3) := by decide +kernel
theorem dX5_reading_19 : decode cX5_reading 19 = .ok (.ifCond .eq 13, 3) := by decide +kernel
theorem dX5_reading_22 : decode cX5_reading 22 = .ok (.iload_n 3, 1) := by decide +kernel
theorem dX5_reading_23 : decode cX5_reading 23 = .ok (.iconst 0, 1) := by decide +kernel
theorem dX5_reading_24 : decode cX5_reading 24 = .ok (.bipush 99, 2) := by decide +kernel
theorem dX5_reading_26 : decode cX5_reading 26 = .ok (.invokestatic 61, 3) := by decide +kernel
theorem dX5_reading_29 : decode cX5_reading 29 = .ok (.ifCond .ne 6, 3) := by decide +kernel
theorem dX5_reading_32 : decode cX5_reading 32 = .ok (.bipush (-2), 2) := by decide +kernel
theorem dX5_reading_34 : decode cX5_reading 34 = .ok (.ireturn, 1) := by decide +kernel
theorem dX5_reading_35 : decode cX5_reading 35 = .ok (.aload_n 0, 1) := by decide +kernel
theorem dX5_reading_36 : decode cX5_reading 36 = .ok (.getfield 113, 3) := by decide +kernel
theorem dX5_reading_39 : decode cX5_reading 39 = .ok (.bipush 8, 2) := by decide +kernel
theorem dX5_reading_41 : decode cX5_reading 41 = .ok (.if_icmp .ne 6, 3) := by decide +kernel
theorem dX5_reading_44 : decode cX5_reading 44 = .ok (.bipush (-4), 2) := by decide +kernel
theorem dX5_reading_46 : decode cX5_reading 46 = .ok (.ireturn, 1) := by decide +kernel
theorem dX5_reading_47 : decode cX5_reading 47 = .ok (.aload_n 0, 1) := by decide +kernel
theorem dX5_reading_48 : decode cX5_reading 48 = .ok (.getfield 46, 3) := by decide +kernel
theorem dX5_reading_51 : decode cX5_reading 51 = .ok (.aload_n 0, 1) := by decide +kernel
theorem dX5_reading_52 : decode cX5_reading 52 = .ok (.getfield 113, 3) := by decide +kernel
theorem dX5_reading_55 : decode cX5_reading 55 = .ok (.iload_n 1, 1) := by decide +kernel
theorem dX5_reading_56 : decode cX5_reading 56 = .ok (.iastore, 1) := by decide +kernel
theorem dX5_reading_57 : decode cX5_reading 57 = .ok (.aload_n 0, 1) := by decide +kernel
theorem dX5_reading_58 : decode cX5_reading 58 = .ok (.getfield 49, 3) := by decide +kernel
theorem dX5_reading_61 : decode cX5_reading 61 = .ok (.aload_n 0, 1) := by decide +kernel
theorem dX5_reading_62 : decode cX5_reading 62 = .ok (.getfield 113, 3) := by decide +kernel
theorem dX5_reading_65 : decode cX5_reading 65 = .ok (.iload_n 2, 1) := by decide +kernel
theorem dX5_reading_66 : decode cX5_reading 66 = .ok (.iastore, 1) := by decide +kernel
theorem dX5_reading_67 : decode cX5_reading 67 = .ok (.aload_n 0, 1) := by decide +kernel
theorem dX5_reading_68 : decode cX5_reading 68 = .ok (.getfield 52, 3) := by decide +kernel
theorem dX5_reading_71 : decode cX5_reading 71 = .ok (.aload_n 0, 1) := by decide +kernel
theorem dX5_reading_72 : decode cX5_reading 72 = .ok (.getfield 113, 3) := by decide +kernel
theorem dX5_reading_75 : decode cX5_reading 75 = .ok (.iload_n 3, 1) := by decide +kernel
theorem dX5_reading_76 : decode cX5_reading 76 = .ok (.iastore, 1) := by decide +kernel
theorem dX5_reading_77 : decode cX5_reading 77 = .ok (.aload_n 0, 1) := by decide +kernel
theorem dX5_reading_78 : decode cX5_reading 78 = .ok (.dup, 1) := by decide +kernel
theorem dX5_reading_79 : decode cX5_reading 79 = .ok (.getfield 113, 3) := by decide +kernel
theorem dX5_reading_82 : decode cX5_reading 82 = .ok (.iconst 1, 1) := by decide +kernel
theorem dX5_reading_83 : decode cX5_reading 83 = .ok (.iadd, 1) := by decide +kernel
theorem dX5_reading_84 : decode cX5_reading 84 = .ok (.putfield 113, 3) := by decide +kernel
theorem dX5_reading_87 : decode cX5_reading 87 = .ok (.aload_n 0, 1) := by decide +kernel
theorem dX5_reading_88 : decode cX5_reading 88 = .ok (.getfield 113, 3) := by decide +kernel
theorem dX5_reading_91 : decode cX5_reading 91 = .ok (.iconst 1, 1) := by decide +kernel
theorem dX5_reading_92 : decode cX5_reading 92 = .ok (.isub, 1) := by decide +kernel
theorem dX5_reading_93 : decode cX5_reading 93 = .ok (.ireturn, 1) := by decide +kernel
set_option maxRecDepth 20000 in
theorem ggX5_back_X5_within : GoodIn wsX5_back wsX5_within := goodIn_r _ [5] (by decide +kernel) (by decide +kernel)
set_option maxRecDepth 20000 in
theorem gX5_back_X5_within : GoodIn wsX5_back (va_wsS RX5 61 yX5_within wsX5_within) := goodIn_app (goodIn_of _ (by decide +kernel)) ggX5_back_X5_within
theorem dX5_back_0 : decode cX5_back 0 = .ok (.iload_n 1, 1) := by decide +kernel
theorem dX5_back_1 : decode cX5_back 1 = .ok (.iconst 0, 1) := by decide +kernel
theorem dX5_back_2 : decode cX5_back 2 = .ok (.aload_n 0, 1) := by decide +kernel
theorem dX5_back_3 : decode cX5_back 3 = .ok (.getfield 113, 3) := by decide +kernel
theorem dX5_back_6 : decode cX5_back 6 = .ok (.invokestatic 61, 3) := by decide +kernel
theorem dX5_back_9 : decode cX5_back 9 = .ok (.ifCond .ne 6, 3) := by decide +kernel
theorem dX5_back_12 : decode cX5_back 12 = .ok (.bipush (-2), 2) := by decide +kernel
theorem dX5_back_14 : decode cX5_back 14 = .ok (.ireturn, 1) := by decide +kernel
theorem dX5_back_15 : decode cX5_back 15 = .ok (.aload_n 0, 1) := by decide +kernel
theorem dX5_back_16 : decode cX5_back 16 = .ok (.dup, 1) := by decide +kernel
theorem dX5_back_17 : decode cX5_back 17 = .ok (.getfield 113, 3) := by decide +kernel
theorem dX5_back_20 : decode cX5_back 20 = .ok (.iload_n 1, 1) := by decide +kernel
theorem dX5_back_21 : decode cX5_back 21 = .ok (.isub, 1) := by decide +kernel
theorem dX5_back_22 : decode cX5_back 22 = .ok (.putfield 113, 3) := by decide +kernel
theorem dX5_back_25 : decode cX5_back 25 = .ok (.aload_n 0, 1) := by decide +kernel
theorem dX5_back_26 : decode cX5_back 26 = .ok (.getfield 113, 3) := by decide +kernel
theorem dX5_back_29 : decode cX5_back 29 = .ok (.ireturn, 1) := by decide +kernel
set_option maxRecDepth 20000 in
theorem ggX5_areSo_X5_nobody : GoodIn wsX5_areSo wsX5_nobody := goodIn_r _ [9, 10, 42, 43, 44, 45, 46, 47, 48, 49, 50, 51, 52, 53, 54, 55, 56, 57, 58, 59, 60, 61, 62, 63, 64, 65, 66, 67, 68] (by decide +kernel) (by decide +kernel)
set_option maxRecDepth 20000 in
theorem gX5_areSo_X5_nobody : GoodIn wsX5_areSo (wsV RX5 159 RX5 yX5_nobody wsX5_nobody) := goodIn_app (goodIn_of _ (by decide +kernel)) ggX5_areSo_X5_nobody
set_option maxRecDepth 20000 in
theorem ggX5_areSo_X5_hoursBehind : GoodIn wsX5_areSo wsX5_hoursBehind := goodIn_r _ [14, 15, 16, 17, 8, 18, 19, 20, 21, 22, 23, 24, 25, 26, 27, 28, 29, 10, 30, 31, 32, 33, 34, 35, 36, 37, 38, 39, 40, 41, 42, 43, 44, 45, 46, 47, 48, 49, 50, 51, 52, 53, 54, 55, 56, 57, 58, 59, 60, 61, 62, 63, 64, 65, 66, 67, 68] (by decide +kernel) (by decide +kernel)
set_option maxRecDepth 20000 in
theorem gX5_areSo_X5_hoursBehind : GoodIn wsX5_areSo (wsV RX5 155 RX5 yX5_hoursBehind wsX5_hoursBehind) := goodIn_app (goodIn_of _ (by decide +kernel)) ggX5_areSo_X5_hoursBehind
theorem dX5_areSo_0 : decode cX5_areSo 0 = .ok (.aload_n 0, 1) := by decide +kernel
theorem dX5_areSo_1 : decode cX5_areSo 1 = .ok (.invokevirtual 159, 3) := by decide +kernel
theorem dX5_areSo_4 : decode cX5_areSo 4 = .ok (.iconst 0, 1) := by decide +kernel
theorem dX5_areSo_5 : decode cX5_areSo 5 = .ok (.istore_n 1, 1) := by decide +kernel
theorem dX5_areSo_6 : decode cX5_areSo 6 = .ok (.iload_n 1, 1) := by decide +kernel
theorem dX5_areSo_7 : decode cX5_areSo 7 = .ok (.aload_n 0, 1) := by decide +kernel
theorem dX5_areSo_8 : decode cX5_areSo 8 = .ok (.getfield 113, 3) := by decide +kernel
theorem dX5_areSo_11 : decode cX5_areSo 11 = .ok (.if_icmp .ge 36, 3) := by decide +kernel
theorem dX5_areSo_14 : decode cX5_areSo 14 = .ok (.aload_n 0, 1) := by decide +kernel
theorem dX5_areSo_15 : decode cX5_areSo 15 = .ok (.aload_n 0, 1) := by decide +kernel
theorem dX5_areSo_16 : decode cX5_areSo 16 = .ok (.getfield 46, 3) := by decide +kernel
theorem dX5_areSo_19 : decode cX5_areSo 19 = .ok (.iload_n 1, 1) := by decide +kernel
theorem dX5_areSo_20 : decode cX5_areSo 20 = .ok (.iaload, 1) := by decide +kernel
theorem dX5_areSo_21 : decode cX5_areSo 21 = .ok (.aload_n 0, 1) := by decide +kernel
theorem dX5_areSo_22 : decode cX5_areSo 22 = .ok (.getfield 49, 3) := by decide +kernel
theorem dX5_areSo_25 : decode cX5_areSo 25 = .ok (.iload_n 1, 1) := by decide +kernel
theorem dX5_areSo_26 : decode cX5_areSo 26 = .ok (.iaload, 1) := by decide +kernel
theorem dX5_areSo_27 : decode cX5_areSo 27 = .ok (.invokevirtual 155, 3) := by decide +kernel
theorem dX5_areSo_30 : decode cX5_areSo 30 = .ok (.aload_n 0, 1) := by decide +kernel
theorem dX5_areSo_31 : decode cX5_areSo 31 = .ok (.getfield 52, 3) := by decide +kernel
theorem dX5_areSo_34 : decode cX5_areSo 34 = .ok (.iload_n 1, 1) := by decide +kernel
theorem dX5_areSo_35 : decode cX5_areSo 35 = .ok (.iaload, 1) := by decide +kernel
theorem dX5_areSo_36 : decode cX5_areSo 36 = .ok (.if_icmp .eq 5, 3) := by decide +kernel
theorem dX5_areSo_39 : decode cX5_areSo 39 = .ok (.iconst 0, 1) := by decide +kernel
theorem dX5_areSo_40 : decode cX5_areSo 40 = .ok (.ireturn, 1) := by decide +kernel
theorem dX5_areSo_41 : decode cX5_areSo 41 = .ok (.iinc 1 1, 3) := by decide +kernel
theorem dX5_areSo_44 : decode cX5_areSo 44 = .ok (.goto (-38), 3) := by decide +kernel
theorem dX5_areSo_47 : decode cX5_areSo 47 = .ok (.iconst 1, 1) := by decide +kernel
theorem dX5_areSo_48 : decode cX5_areSo 48 = .ok (.ireturn, 1) := by decide +kernel
set_option maxRecDepth 20000 in
theorem ggX5_wits_X5_isPupil : GoodIn wsX5_wits wsX5_isPupil := goodIn_r _ [6, 7, 50, 51, 52, 53, 54, 55, 56, 57, 58, 59, 60, 61, 62, 63, 64, 65, 66, 67, 68, 69, 70, 71, 72, 73, 74, 75, 76] (by decide +kernel) (by decide +kernel)
set_option maxRecDepth 20000 in
theorem gX5_wits_X5_isPupil : GoodIn wsX5_wits (wsV RX5 130 RX5 yX5_isPupil wsX5_isPupil) := goodIn_app (goodIn_of _ (by decide +kernel)) ggX5_wits_X5_isPupil
set_option maxRecDepth 20000 in
theorem ggX5_wits_X5_areSo : GoodIn wsX5_wits wsX5_areSo := goodIn_r _ [11, 12, 13, 14, 15, 16, 17, 18, 5, 19, 20, 21, 22, 23, 24, 25, 26, 27, 28, 29, 7, 1, 30, 31, 32, 33, 34, 35, 36, 37, 38, 39, 40, 41, 42, 43, 44, 45, 46, 47, 48, 49, 50, 51, 52, 53, 54, 55, 56, 57, 58, 59, 60, 61, 62, 63, 64, 65, 66, 67, 68, 69, 70, 71, 72, 73, 74, 75, 76] (by decide +kernel) (by decide +kernel)
set_option maxRecDepth 20000 in
theorem gX5_wits_X5_areSo : GoodIn wsX5_wits (wsV RX5 178 RX5 yX5_areSo wsX5_areSo) := goodIn_app (goodIn_of _ (by decide +kernel)) ggX5_wits_X5_areSo
theorem dX5_wits_0 : decode cX5_wits 0 = .ok (.aload_n 0, 1) := by decide +kernel
theorem dX5_wits_1 : decode cX5_wits 1 = .ok (.iload_n 1, 1) := by decide +kernel
theorem dX5_wits_2 : decode cX5_wits 2 = .ok (.invokevirtual 130, 3) := by decide +kernel
theorem dX5_wits_5 : decode cX5_wits 5 = .ok (.ifCond .ne 5, 3) := by decide +kernel
theorem dX5_wits_8 : decode cX5_wits 8 = .ok (.iconst (-1), 1) := by decide +kernel
theorem dX5_wits_9 : decode cX5_wits 9 = .ok (.ireturn, 1) := by decide +kernel
theorem dX5_wits_10 : decode cX5_wits 10 = .ok (.aload_n 0, 1) := by decide +kernel
theorem dX5_wits_11 : decode cX5_wits 11 = .ok (.getfield 25, 3) := by decide +kernel
theorem dX5_wits_14 : decode cX5_wits 14 = .ok (.iload_n 1, 1) := by decide +kernel
theorem dX5_wits_15 : decode cX5_wits 15 = .ok (.iaload, 1) := by decide +kernel
theorem dX5_wits_16 : decode cX5_wits 16 = .ok (.istore_n 2, 1) := by decide +kernel
theorem dX5_wits_17 : decode cX5_wits 17 = .ok (.iconst 0, 1) := by decide +kernel
theorem dX5_wits_18 : decode cX5_wits 18 = .ok (.istore_n 3, 1) := by decide +kernel
theorem dX5_wits_19 : decode cX5_wits 19 = .ok (.iconst 0, 1) := by decide +kernel
theorem dX5_wits_20 : decode cX5_wits 20 = .ok (.istore 4, 2) := by decide +kernel
theorem dX5_wits_22 : decode cX5_wits 22 = .ok (.iload 4, 2) := by decide +kernel
theorem dX5_wits_24 : decode cX5_wits 24 = .ok (.bipush 9, 2) := by decide +kernel
theorem dX5_wits_26 : decode cX5_wits 26 = .ok (.if_icmp .gt 35, 3) := by decide +kernel
theorem dX5_wits_29 : decode cX5_wits 29 = .ok (.aload_n 0, 1) := by decide +kernel
theorem dX5_wits_30 : decode cX5_wits 30 = .ok (.getfield 25, 3) := by decide +kernel
theorem dX5_wits_33 : decode cX5_wits 33 = .ok (.iload_n 1, 1) := by decide +kernel
theorem dX5_wits_34 : decode cX5_wits 34 = .ok (.iload 4, 2) := by decide +kernel
theorem dX5_wits_36 : decode cX5_wits 36 = .ok (.iastore, 1) := by decide +kernel
theorem dX5_wits_37 : decode cX5_wits 37 = .ok (.iload_n 3, 1) := by decide +kernel
theorem dX5_wits_38 : decode cX5_wits 38 = .ok (.aload_n 0, 1) := by decide +kernel
theorem dX5_wits_39 : decode cX5_wits 39 = .ok (.invokevirtual 178, 3) := by decide +kernel
theorem dX5_wits_42 : decode cX5_wits 42 = .ok (.ifCond .eq 10, 3) := by decide +kernel
theorem dX5_wits_45 : decode cX5_wits 45 = .ok (.iconst 1, 1) := by decide +kernel
theorem dX5_wits_46 : decode cX5_wits 46 = .ok (.iload 4, 2) := by decide +kernel
theorem dX5_wits_48 : decode cX5_wits 48 = .ok (.ishl, 1) := by decide +kernel
theorem dX5_wits_49 : decode cX5_wits 49 = .ok (.goto 4, 3) := by decide +kernel
theorem dX5_wits_52 : decode cX5_wits 52 = .ok (.iconst 0, 1) := by decide +kernel
theorem dX5_wits_53 : decode cX5_wits 53 = .ok (.ior, 1) := by decide +kernel
theorem dX5_wits_54 : decode cX5_wits 54 = .ok (.istore_n 3, 1) := by decide +kernel
theorem dX5_wits_55 : decode cX5_wits 55 = .ok (.iinc 4 1, 3) := by decide +kernel
theorem dX5_wits_58 : decode cX5_wits 58 = .ok (.goto (-36), 3) := by decide +kernel
theorem dX5_wits_61 : decode cX5_wits 61 = .ok (.aload_n 0, 1) := by decide +kernel
theorem dX5_wits_62 : decode cX5_wits 62 = .ok (.getfield 25, 3) := by decide +kernel
theorem dX5_wits_65 : decode cX5_wits 65 = .ok (.iload_n 1, 1) := by decide +kernel
theorem dX5_wits_66 : decode cX5_wits 66 = .ok (.iload_n 2, 1) := by decide +kernel
theorem dX5_wits_67 : decode cX5_wits 67 = .ok (.iastore, 1) := by decide +kernel
theorem dX5_wits_68 : decode cX5_wits 68 = .ok (.iload_n 3, 1) := by decide +kernel
theorem dX5_wits_69 : decode cX5_wits 69 = .ok (.ireturn, 1) := by decide +kernel
set_option maxRecDepth 20000 in
theorem ggX5_kinds_X5_isPupil : GoodIn wsX5_kinds wsX5_isPupil := goodIn_r _ [6, 7, 50, 51, 52, 53, 54, 55, 56, 57, 58, 59, 60, 61, 62, 63, 64, 65, 66, 67, 68, 69, 70, 71, 72, 73, 74, 75, 76] (by decide +kernel) (by decide +kernel)
set_option maxRecDepth 20000 in
theorem gX5_kinds_X5_isPupil : GoodIn wsX5_kinds (wsV RX5 130 RX5 yX5_isPupil wsX5_isPupil) := goodIn_app (goodIn_of _ (by decide +kernel)) ggX5_kinds_X5_isPupil
set_option maxRecDepth 20000 in
theorem ggX5_kinds_X5_areSo : GoodIn wsX5_kinds wsX5_areSo := goodIn_r _ [11, 12, 13, 14, 15, 16, 17, 18, 5, 19, 20, 21, 22, 23, 24, 25, 26, 27, 28, 29, 7, 30, 31, 32, 33, 34, 35, 36, 37, 38, 39, 40, 41, 42, 43, 44, 45, 46, 47, 48, 1, 49, 50, 51, 52, 53, 54, 55, 56, 57, 58, 59, 60, 61, 62, 63, 64, 65, 66, 67, 68, 69, 70, 71, 72, 73, 74, 75, 76] (by decide +kernel) (by decide +kernel)
set_option maxRecDepth 20000 in
theorem gX5_kinds_X5_areSo : GoodIn wsX5_kinds (wsV RX5 178 RX5 yX5_areSo wsX5_areSo) := goodIn_app (goodIn_of _ (by decide +kernel)) ggX5_kinds_X5_areSo
theorem dX5_kinds_0 : decode cX5_kinds 0 = .ok (.aload_n 0, 1) := by decide +kernel
theorem dX5_kinds_1 : decode cX5_kinds 1 = .ok (.iload_n 1, 1) := by decide +kernel
theorem dX5_kinds_2 : decode cX5_kinds 2 = .ok (.invokevirtual 130, 3) := by decide +kernel
theorem dX5_kinds_5 : decode cX5_kinds 5 = .ok (.ifCond .ne 5, 3) := by decide +kernel
theorem dX5_kinds_8 : decode cX5_kinds 8 = .ok (.iconst (-1), 1) := by decide +kernel
theorem dX5_kinds_9 : decode cX5_kinds 9 = .ok (.ireturn, 1) := by decide +kernel
theorem dX5_kinds_10 : decode cX5_kinds 10 = .ok (.aload_n 0, 1) := by decide +kernel
theorem dX5_kinds_11 : decode cX5_kinds 11 = .ok (.getfield 22, 3) := by decide +kernel
theorem dX5_kinds_14 : decode cX5_kinds 14 = .ok (.iload_n 1, 1) := by decide +kernel
theorem dX5_kinds_15 : decode cX5_kinds 15 = .ok (.iaload, 1) := by decide +kernel
theorem dX5_kinds_16 : decode cX5_kinds 16 = .ok (.istore_n 2, 1) := by decide +kernel
theorem dX5_kinds_17 : decode cX5_kinds 17 = .ok (.iconst 0, 1) := by decide +kernel
theorem dX5_kinds_18 : decode cX5_kinds 18 = .ok (.istore_n 3, 1) := by decide +kernel
theorem dX5_kinds_19 : decode cX5_kinds 19 = .ok (.iconst 0, 1) := by decide +kernel
theorem dX5_kinds_20 : decode cX5_kinds 20 = .ok (.istore 4, 2) := by decide +kernel
theorem dX5_kinds_22 : decode cX5_kinds 22 = .ok (.iload 4, 2) := by decide +kernel
theorem dX5_kinds_24 : decode cX5_kinds 24 = .ok (.iconst 3, 1) := by decide +kernel
theorem dX5_kinds_25 : decode cX5_kinds 25 = .ok (.if_icmp .ge 35, 3) := by decide +kernel
theorem dX5_kinds_28 : decode cX5_kinds 28 = .ok (.aload_n 0, 1) := by decide +kernel
theorem dX5_kinds_29 : decode cX5_kinds 29 = .ok (.getfield 22, 3) := by decide +kernel
theorem dX5_kinds_32 : decode cX5_kinds 32 = .ok (.iload_n 1, 1) := by decide +kernel
theorem dX5_kinds_33 : decode cX5_kinds 33 = .ok (.iload 4, 2) := by decide +kernel
theorem dX5_kinds_35 : decode cX5_kinds 35 = .ok (.iastore, 1) := by decide +kernel
theorem dX5_kinds_36 : decode cX5_kinds 36 = .ok (.iload_n 3, 1) := by decide +kernel
theorem dX5_kinds_37 : decode cX5_kinds 37 = .ok (.aload_n 0, 1) := by decide +kernel
theorem dX5_kinds_38 : decode cX5_kinds 38 = .ok (.invokevirtual 178, 3) := by decide +kernel
theorem dX5_kinds_41 : decode cX5_kinds 41 = .ok (.ifCond .eq 10, 3) := by decide +kernel
theorem dX5_kinds_44 : decode cX5_kinds 44 = .ok (.iconst 1, 1) := by decide +kernel
theorem dX5_kinds_45 : decode cX5_kinds 45 = .ok (.iload 4, 2) := by decide +kernel
theorem dX5_kinds_47 : decode cX5_kinds 47 = .ok (.ishl, 1) := by decide +kernel
theorem dX5_kinds_48 : decode cX5_kinds 48 = .ok (.goto 4, 3) := by decide +kernel
theorem dX5_kinds_51 : decode cX5_kinds 51 = .ok (.iconst 0, 1) := by decide +kernel
theorem dX5_kinds_52 : decode cX5_kinds 52 = .ok (.ior, 1) := by decide +kernel
theorem dX5_kinds_53 : decode cX5_kinds 53 = .ok (.istore_n 3, 1) := by decide +kernel
theorem dX5_kinds_54 : decode cX5_kinds 54 = .ok (.iinc 4 1, 3) := by decide +kernel
theorem dX5_kinds_57 : decode cX5_kinds 57 = .ok (.goto (-35), 3) := by decide +kernel
theorem dX5_kinds_60 : decode cX5_kinds 60 = .ok (.aload_n 0, 1) := by decide +kernel
theorem dX5_kinds_61 : decode cX5_kinds 61 = .ok (.getfield 22, 3) := by decide +kernel
theorem dX5_kinds_64 : decode cX5_kinds 64 = .ok (.iload_n 1, 1) := by decide +kernel
theorem dX5_kinds_65 : decode cX5_kinds 65 = .ok (.iload_n 2, 1) := by decide +kernel
theorem dX5_kinds_66 : decode cX5_kinds 66 = .ok (.iastore, 1) := by decide +kernel
theorem dX5_kinds_67 : decode cX5_kinds 67 = .ok (.iload_n 3, 1) := by decide +kernel
theorem dX5_kinds_68 : decode cX5_kinds 68 = .ok (.ireturn, 1) := by decide +kernel
set_option maxRecDepth 20000 in
theorem ggX5_hards_X5_isDay : GoodIn wsX5_hards wsX5_isDay := goodIn_r _ [6, 7, 51, 52, 53, 54, 55, 56, 57, 58, 59, 60, 61, 62, 63, 64, 65, 66, 67, 68, 69, 70, 71, 72, 73, 74, 75, 76, 77] (by decide +kernel) (by decide +kernel)
set_option maxRecDepth 20000 in
theorem gX5_hards_X5_isDay : GoodIn wsX5_hards (wsV RX5 136 RX5 yX5_isDay wsX5_isDay) := goodIn_app (goodIn_of _ (by decide +kernel)) ggX5_hards_X5_isDay
set_option maxRecDepth 20000 in
theorem ggX5_hards_X5_areSo : GoodIn wsX5_hards wsX5_areSo := goodIn_r _ [11, 12, 13, 14, 15, 16, 17, 18, 5, 19, 20, 21, 22, 23, 24, 25, 26, 27, 28, 29, 30, 31, 32, 33, 34, 35, 36, 37, 38, 39, 40, 41, 42, 43, 1, 44, 45, 46, 47, 48, 49, 50, 51, 52, 53, 54, 55, 56, 57, 58, 59, 60, 61, 62, 63, 64, 65, 66, 67, 68, 69, 70, 71, 72, 73, 74, 75, 76, 77] (by decide +kernel) (by decide +kernel)
set_option maxRecDepth 20000 in
theorem gX5_hards_X5_areSo : GoodIn wsX5_hards (wsV RX5 178 RX5 yX5_areSo wsX5_areSo) := goodIn_app (goodIn_of _ (by decide +kernel)) ggX5_hards_X5_areSo
theorem dX5_hards_0 : decode cX5_hards 0 = .ok (.aload_n 0, 1) := by decide +kernel
theorem dX5_hards_1 : decode cX5_hards 1 = .ok (.iload_n 1, 1) := by decide +kernel
theorem dX5_hards_2 : decode cX5_hards 2 = .ok (.invokevirtual 136, 3) := by decide +kernel
theorem dX5_hards_5 : decode cX5_hards 5 = .ok (.ifCond .ne 5, 3) := by decide +kernel
theorem dX5_hards_8 : decode cX5_hards 8 = .ok (.iconst (-1), 1) := by decide +kernel
theorem dX5_hards_9 : decode cX5_hards 9 = .ok (.ireturn, 1) := by decide +kernel
theorem dX5_hards_10 : decode cX5_hards 10 = .ok (.aload_n 0, 1) := by decide +kernel
theorem dX5_hards_11 : decode cX5_hards 11 = .ok (.getfield 19, 3) := by decide +kernel
theorem dX5_hards_14 : decode cX5_hards 14 = .ok (.iload_n 1, 1) := by decide +kernel
theorem dX5_hards_15 : decode cX5_hards 15 = .ok (.iaload, 1) := by decide +kernel
theorem dX5_hards_16 : decode cX5_hards 16 = .ok (.istore_n 2, 1) := by decide +kernel
theorem dX5_hards_17 : decode cX5_hards 17 = .ok (.iconst 0, 1) := by decide +kernel
theorem dX5_hards_18 : decode cX5_hards 18 = .ok (.istore_n 3, 1) := by decide +kernel
theorem dX5_hards_19 : decode cX5_hards 19 = .ok (.iconst 0, 1) := by decide +kernel
theorem dX5_hards_20 : decode cX5_hards 20 = .ok (.istore 4, 2) := by decide +kernel
theorem dX5_hards_22 : decode cX5_hards 22 = .ok (.iload 4, 2) := by decide +kernel
theorem dX5_hards_24 : decode cX5_hards 24 = .ok (.bipush 9, 2) := by decide +kernel
theorem dX5_hards_26 : decode cX5_hards 26 = .ok (.if_icmp .gt 35, 3) := by decide +kernel
theorem dX5_hards_29 : decode cX5_hards 29 = .ok (.aload_n 0, 1) := by decide +kernel
theorem dX5_hards_30 : decode cX5_hards 30 = .ok (.getfield 19, 3) := by decide +kernel
theorem dX5_hards_33 : decode cX5_hards 33 = .ok (.iload_n 1, 1) := by decide +kernel
theorem dX5_hards_34 : decode cX5_hards 34 = .ok (.iload 4, 2) := by decide +kernel
theorem dX5_hards_36 : decode cX5_hards 36 = .ok (.iastore, 1) := by decide +kernel
theorem dX5_hards_37 : decode cX5_hards 37 = .ok (.iload_n 3, 1) := by decide +kernel
theorem dX5_hards_38 : decode cX5_hards 38 = .ok (.aload_n 0, 1) := by decide +kernel
theorem dX5_hards_39 : decode cX5_hards 39 = .ok (.invokevirtual 178, 3) := by decide +kernel
theorem dX5_hards_42 : decode cX5_hards 42 = .ok (.ifCond .eq 10, 3) := by decide +kernel
theorem dX5_hards_45 : decode cX5_hards 45 = .ok (.iconst 1, 1) := by decide +kernel
theorem dX5_hards_46 : decode cX5_hards 46 = .ok (.iload 4, 2) := by decide +kernel
theorem dX5_hards_48 : decode cX5_hards 48 = .ok (.ishl, 1) := by decide +kernel
theorem dX5_hards_49 : decode cX5_hards 49 = .ok (.goto 4, 3) := by decide +kernel
theorem dX5_hards_52 : decode cX5_hards 52 = .ok (.iconst 0, 1) := by decide +kernel
theorem dX5_hards_53 : decode cX5_hards 53 = .ok (.ior, 1) := by decide +kernel
theorem dX5_hards_54 : decode cX5_hards 54 = .ok (.istore_n 3, 1) := by decide +kernel
theorem dX5_hards_55 : decode cX5_hards 55 = .ok (.iinc 4 1, 3) := by decide +kernel
theorem dX5_hards_58 : decode cX5_hards 58 = .ok (.goto (-36), 3) := by decide +kernel
theorem dX5_hards_61 : decode cX5_hards 61 = .ok (.aload_n 0, 1) := by decide +kernel
theorem dX5_hards_62 : decode cX5_hards 62 = .ok (.getfield 19, 3) := by decide +kernel
theorem dX5_hards_65 : decode cX5_hards 65 = .ok (.iload_n 1, 1) := by decide +kernel
theorem dX5_hards_66 : decode cX5_hards 66 = .ok (.iload_n 2, 1) := by decide +kernel
theorem dX5_hards_67 : decode cX5_hards 67 = .ok (.iastore, 1) := by decide +kernel
theorem dX5_hards_68 : decode cX5_hards 68 = .ok (.iload_n 3, 1) := by decide +kernel
theorem dX5_hards_69 : decode cX5_hards 69 = .ok (.ireturn, 1) := by decide +kernel
theorem dX5_inLeastTerms_0 : decode cX5_inLeastTerms 0 = .ok (.lload_n 0, 1) := by decide +kernel
theorem dX5_inLeastTerms_1 : decode cX5_inLeastTerms 1 = .ok (.lstore 5, 2) := by decide +kernel
theorem dX5_inLeastTerms_3 : decode cX5_inLeastTerms 3 = .ok (.lload_n 2, 1) := by decide +kernel
theorem dX5_inLeastTerms_4 : decode cX5_inLeastTerms 4 = .ok (.lstore 7, 2) := by decide +kernel
theorem dX5_inLeastTerms_6 : decode cX5_inLeastTerms 6 = .ok (.lload 7, 2) := by decide +kernel
theorem dX5_inLeastTerms_8 : decode cX5_inLeastTerms 8 = .ok (.lconst 0, 1) := by decide +kernel
theorem dX5_inLeastTerms_9 : decode cX5_inLeastTerms 9 = .ok (.lcmp, 1) := by decide +kernel
theorem dX5_inLeastTerms_10 : decode cX5_inLeastTerms 10 = .ok (.ifCond .eq 21, 3) := by decide +kernel
theorem dX5_inLeastTerms_13 : decode cX5_inLeastTerms 13 = .ok (.lload 5, 2) := by decide +kernel
theorem dX5_inLeastTerms_15 : decode cX5_inLeastTerms 15 = .ok (.lload 7, 2) := by decide +kernel
theorem dX5_inLeastTerms_17 : decode cX5_inLeastTerms 17 = .ok (.lrem, 1) := by decide +kernel
theorem dX5_inLeastTerms_18 : decode cX5_inLeastTerms 18 = .ok (.lstore 9, 2) := by decide +kernel
theorem dX5_inLeastTerms_20 : decode cX5_inLeastTerms 20 = .ok (.lload 7, 2) := by decide +kernel
theorem dX5_inLeastTerms_22 : decode cX5_inLeastTerms 22 = .ok (.lstore 5, 2) := by decide +kernel
theorem dX5_inLeastTerms_24 : decode cX5_inLeastTerms 24 = .ok (.lload 9, 2) := by decide +kernel
theorem dX5_inLeastTerms_26 : decode cX5_inLeastTerms 26 = .ok (.lstore 7, 2) := by decide +kernel
theorem dX5_inLeastTerms_28 : decode cX5_inLeastTerms 28 = .ok (.goto (-22), 3) := by decide +kernel
theorem dX5_inLeastTerms_31 : decode cX5_inLeastTerms 31 = .ok (.iload 4, 2) := by decide +kernel
theorem dX5_inLeastTerms_33 : decode cX5_inLeastTerms 33 = .ok (.ifCond .ne 10, 3) := by decide +kernel
theorem dX5_inLeastTerms_36 : decode cX5_inLeastTerms 36 = .ok (.lload_n 0, 1) := by decide +kernel
theorem dX5_inLeastTerms_37 : decode cX5_inLeastTerms 37 = .ok (.lload 5, 2) := by decide +kernel
theorem dX5_inLeastTerms_39 : decode cX5_inLeastTerms 39 = .ok (.ldiv, 1) := by decide +kernel
theorem dX5_inLeastTerms_40 : decode cX5_inLeastTerms 40 = .ok (.goto 7, 3) := by decide +kernel
theorem dX5_inLeastTerms_43 : decode cX5_inLeastTerms 43 = .ok (.lload_n 2, 1) := by decide +kernel
theorem dX5_inLeastTerms_44 : decode cX5_inLeastTerms 44 = .ok (.lload 5, 2) := by decide +kernel
theorem dX5_inLeastTerms_46 : decode cX5_inLeastTerms 46 = .ok (.ldiv, 1) := by decide +kernel
theorem dX5_inLeastTerms_47 : decode cX5_inLeastTerms 47 = .ok (.lreturn, 1) := by decide +kernel
set_option maxRecDepth 20000 in
theorem ggX5_odds_X5_isPupil : GoodIn wsX5_odds wsX5_isPupil := goodIn_r _ [9, 2, 50, 51, 52, 53, 54, 55, 56, 57, 58, 59, 60, 61, 62, 63, 64, 65, 66, 67, 68, 69, 70, 71, 72, 73, 74, 75, 76] (by decide +kernel) (by decide +kernel)
set_option maxRecDepth 20000 in
theorem gX5_odds_X5_isPupil : GoodIn wsX5_odds (wsV RX5 130 RX5 yX5_isPupil wsX5_isPupil) := goodIn_app (goodIn_of _ (by decide +kernel)) ggX5_odds_X5_isPupil
set_option maxRecDepth 20000 in
theorem ggX5_odds_X5_within : GoodIn wsX5_odds wsX5_within := goodIn_r _ [12] (by decide +kernel) (by decide +kernel)
set_option maxRecDepth 20000 in
theorem gX5_odds_X5_within : GoodIn wsX5_odds (va_wsS RX5 61 yX5_within wsX5_within) := goodIn_app (goodIn_of _ (by decide +kernel)) ggX5_odds_X5_within
set_option maxRecDepth 20000 in
theorem ggX5_odds_X5_bishopNow : GoodIn wsX5_odds wsX5_bishopNow := goodIn_r _ [16, 2, 4, 17, 18, 19, 8, 20, 21, 22, 23, 24, 25, 26, 27, 28, 29, 30, 31, 32, 33, 34, 3, 35, 36, 37, 38, 39, 40, 41, 42, 43, 44, 45, 46, 50, 51, 52, 53, 54, 55, 56, 57, 58, 59, 60, 61, 62, 63, 64, 65, 66, 67, 68, 69, 70, 71, 72, 73, 74, 75, 76] (by decide +kernel) (by decide +kernel)
set_option maxRecDepth 20000 in
theorem gX5_odds_X5_bishopNow : GoodIn wsX5_odds (wsV RX5 162 RX5 yX5_bishopNow wsX5_bishopNow) := goodIn_app (goodIn_of _ (by decide +kernel)) ggX5_odds_X5_bishopNow
set_option maxRecDepth 20000 in
theorem ggX5_odds_X5_inLeastTerms : GoodIn wsX5_odds wsX5_inLeastTerms := goodIn_r _ [49] (by decide +kernel) (by decide +kernel)
set_option maxRecDepth 20000 in
theorem gX5_odds_X5_inLeastTerms : GoodIn wsX5_odds (va_wsS RX5 182 yX5_inLeastTerms wsX5_inLeastTerms) := goodIn_app (goodIn_of _ (by decide +kernel)) ggX5_odds_X5_inLeastTerms
theorem dX5_odds_0 : decode cX5_odds 0 = .ok (.aload_n 0, 1) := by decide +kernel
theorem dX5_odds_1 : decode cX5_odds 1 = .ok (.iload_n 1, 1) := by decide +kernel
theorem dX5_odds_2 : decode cX5_odds 2 = .ok (.invokevirtual 130, 3) := by decide +kernel
theorem dX5_odds_5 : decode cX5_odds 5 = .ok (.ifCond .eq 12, 3) := by decide +kernel
theorem dX5_odds_8 : decode cX5_odds 8 = .ok (.iload_n 2, 1) := by decide +kernel
theorem dX5_odds_9 : decode cX5_odds 9 = .ok (.iconst 0, 1) := by decide +kernel
theorem dX5_odds_10 : decode cX5_odds 10 = .ok (.iconst 1, 1) := by decide +kernel
theorem dX5_odds_11 : decode cX5_odds 11 = .ok (.invokestatic 61, 3) := by decide +kernel
theorem dX5_odds_14 : decode cX5_odds 14 = .ok (.ifCond .ne 7, 3) := by decide +kernel
theorem dX5_odds_17 : decode cX5_odds 17 = .ok (.ldc2_w 59, 3) := by decide +kernel
theorem dX5_odds_20 : decode cX5_odds 20 = .ok (.lreturn, 1) := by decide +kernel
theorem dX5_odds_21 : decode cX5_odds 21 = .ok (.iconst 0, 1) := by decide +kernel
theorem dX5_odds_22 : decode cX5_odds 22 = .ok (.istore_n 3, 1) := by decide +kernel
theorem dX5_odds_23 : decode cX5_odds 23 = .ok (.iconst 0, 1) := by decide +kernel
theorem dX5_odds_24 : decode cX5_odds 24 = .ok (.istore 4, 2) := by decide +kernel
theorem dX5_odds_26 : decode cX5_odds 26 = .ok (.iload 4, 2) := by decide +kernel
theorem dX5_odds_28 : decode cX5_odds 28 = .ok (.iconst 1, 1) := by decide +kernel
theorem dX5_odds_29 : decode cX5_odds 29 = .ok (.aload_n 0, 1) := by decide +kernel
theorem dX5_odds_30 : decode cX5_odds 30 = .ok (.getfield 65, 3) := by decide +kernel
theorem dX5_odds_33 : decode cX5_odds 33 = .ok (.ishl, 1) := by decide +kernel
theorem dX5_odds_34 : decode cX5_odds 34 = .ok (.if_icmp .ge 73, 3) := by decide +kernel
theorem dX5_odds_37 : decode cX5_odds 37 = .ok (.iconst 0, 1) := by decide +kernel
theorem dX5_odds_38 : decode cX5_odds 38 = .ok (.istore 5, 2) := by decide +kernel
theorem dX5_odds_40 : decode cX5_odds 40 = .ok (.iload 5, 2) := by decide +kernel
theorem dX5_odds_42 : decode cX5_odds 42 = .ok (.aload_n 0, 1) := by decide +kernel
theorem dX5_odds_43 : decode cX5_odds 43 = .ok (.getfield 65, 3) := by decide +kernel
theorem dX5_odds_46 : decode cX5_odds 46 = .ok (.if_icmp .ge 39, 3) := by decide +kernel
theorem dX5_odds_49 : decode cX5_odds 49 = .ok (.aload_n 0, 1) := by decide +kernel
theorem dX5_odds_50 : decode cX5_odds 50 = .ok (.getfield 43, 3) := by decide +kernel
theorem dX5_odds_53 : decode cX5_odds 53 = .ok (.iload 5, 2) := by decide +kernel
theorem dX5_odds_55 : decode cX5_odds 55 = .ok (.iload 4, 2) := by decide +kernel
theorem dX5_odds_57 : decode cX5_odds 57 = .ok (.iload 5, 2) := by decide +kernel
theorem dX5_odds_59 : decode cX5_odds 59 = .ok (.ishr, 1) := by decide +kernel
theorem dX5_odds_60 : decode cX5_odds 60 = .ok (.iconst 1, 1) := by decide +kernel
theorem dX5_odds_61 : decode cX5_odds 61 = .ok (.iand, 1) := by decide +kernel
theorem dX5_odds_62 : decode cX5_odds 62 = .ok (.iconst 1, 1) := by decide +kernel
theorem dX5_odds_63 : decode cX5_odds 63 = .ok (.if_icmp .ne 14, 3) := by decide +kernel
theorem dX5_odds_66 : decode cX5_odds 66 = .ok (.iconst 1, 1) := by decide +kernel
theorem dX5_odds_67 : decode cX5_odds 67 = .ok (.aload_n 0, 1) := by decide +kernel
theorem dX5_odds_68 : decode cX5_odds 68 = .ok (.getfield 68, 3) := by decide +kernel
theorem dX5_odds_71 : decode cX5_odds 71 = .ok (.ishl, 1) := by decide +kernel
theorem dX5_odds_72 : decode cX5_odds 72 = .ok (.iconst 1, 1) := by decide +kernel
theorem dX5_odds_73 : decode cX5_odds 73 = .ok (.isub, 1) := by decide +kernel
theorem dX5_odds_74 : decode cX5_odds 74 = .ok (.goto 4, 3) := by decide +kernel
theorem dX5_odds_77 : decode cX5_odds 77 = .ok (.iconst 0, 1) := by decide +kernel
theorem dX5_odds_78 : decode cX5_odds 78 = .ok (.iastore, 1) := by decide +kernel
theorem dX5_odds_79 : decode cX5_odds 79 = .ok (.iinc 5 1, 3) := by decide +kernel
theorem dX5_odds_82 : decode cX5_odds 82 = .ok (.goto (-42), 3) := by decide +kernel
theorem dX5_odds_85 : decode cX5_odds 85 = .ok (.iload_n 3, 1) := by decide +kernel
theorem dX5_odds_86 : decode cX5_odds 86 = .ok (.aload_n 0, 1) := by decide +kernel
theorem dX5_odds_87 : decode cX5_odds 87 = .ok (.invokevirtual 162, 3) := by decide +kernel
theorem dX5_odds_90 : decode cX5_odds 90 = .ok (.iload_n 1, 1) := by decide +kernel
theorem dX5_odds_91 : decode cX5_odds 91 = .ok (.if_icmp .ne 7, 3) := by decide +kernel
theorem dX5_odds_94 : decode cX5_odds 94 = .ok (.iconst 1, 1) := by decide +kernel
theorem dX5_odds_95 : decode cX5_odds 95 = .ok (.goto 4, 3) := by decide +kernel
theorem dX5_odds_98 : decode cX5_odds 98 = .ok (.iconst 0, 1) := by decide +kernel
theorem dX5_odds_99 : decode cX5_odds 99 = .ok (.iadd, 1) := by decide +kernel
theorem dX5_odds_100 : decode cX5_odds 100 = .ok (.istore_n 3, 1) := by decide +kernel
theorem dX5_odds_101 : decode cX5_odds 101 = .ok (.iinc 4 1, 3) := by decide +kernel
theorem dX5_odds_104 : decode cX5_odds 104 = .ok (.goto (-78), 3) := by decide +kernel
theorem dX5_odds_107 : decode cX5_odds 107 = .ok (.iload_n 3, 1) := by decide +kernel
theorem dX5_odds_108 : decode cX5_odds 108 = .ok (.i2l, 1) := by decide +kernel
theorem dX5_odds_109 : decode cX5_odds 109 = .ok (.lconst 1, 1) := by decide +kernel
theorem dX5_odds_110 : decode cX5_odds 110 = .ok (.aload_n 0, 1) := by decide +kernel
theorem dX5_odds_111 : decode cX5_odds 111 = .ok (.getfield 65, 3) := by decide +kernel
theorem dX5_odds_114 : decode cX5_odds 114 = .ok (.lshl, 1) := by decide +kernel
theorem dX5_odds_115 : decode cX5_odds 115 = .ok (.iload_n 2, 1) := by decide +kernel
theorem dX5_odds_116 : decode cX5_odds 116 = .ok (.invokestatic 182, 3) := by decide +kernel
theorem dX5_odds_119 : decode cX5_odds 119 = .ok (.lreturn, 1) := by decide +kernel
set_option maxRecDepth 20000 in
theorem ggX5_sheet_X5_isSheet : GoodIn wsX5_sheet wsX5_isSheet := goodIn_r _ [8, 9, 10, 7, 11] (by decide +kernel) (by decide +kernel)
set_option maxRecDepth 20000 in
theorem gX5_sheet_X5_isSheet : GoodIn wsX5_sheet (va_wsS RX5 74 yX5_isSheet wsX5_isSheet) := goodIn_app (goodIn_of _ (by decide +kernel)) ggX5_sheet_X5_isSheet
set_option maxRecDepth 20000 in
theorem ggX5_sheet_X5_isSort : GoodIn wsX5_sheet wsX5_isSort := goodIn_r _ [14, 9, 10, 7, 11] (by decide +kernel) (by decide +kernel)
set_option maxRecDepth 20000 in
theorem gX5_sheet_X5_isSort : GoodIn wsX5_sheet (va_wsS RX5 78 yX5_isSort wsX5_isSort) := goodIn_app (goodIn_of _ (by decide +kernel)) ggX5_sheet_X5_isSort
set_option maxRecDepth 20000 in
theorem ggX5_sheet_X5_fails : GoodIn wsX5_sheet wsX5_fails := goodIn_r _ [18, 1, 19, 20, 21, 22, 23, 24, 25, 26, 27, 28, 29, 30, 31, 32, 33, 34, 35, 36, 37, 38, 39, 40, 41, 42, 43, 44, 45] (by decide +kernel) (by decide +kernel)
set_option maxRecDepth 20000 in
theorem gX5_sheet_X5_fails : GoodIn wsX5_sheet (wsV RX5 85 RX5 yX5_fails wsX5_fails) := goodIn_app (goodIn_of _ (by decide +kernel)) ggX5_sheet_X5_fails
theorem dX5_sheet_0 : decode cX5_sheet 0 = .ok (.aload_n 0, 1) := by decide +kernel
theorem dX5_sheet_1 : decode cX5_sheet 1 = .ok (.iconst 0, 1) := by decide +kernel
theorem dX5_sheet_2 : decode cX5_sheet 2 = .ok (.putfield 55, 3) := by decide +kernel
theorem dX5_sheet_5 : decode cX5_sheet 5 = .ok (.iload_n 1, 1) := by decide +kernel
theorem dX5_sheet_6 : decode cX5_sheet 6 = .ok (.invokestatic 74, 3) := by decide +kernel
theorem dX5_sheet_9 : decode cX5_sheet 9 = .ok (.ifCond .ne 5, 3) := by decide +kernel
theorem dX5_sheet_12 : decode cX5_sheet 12 = .ok (.iconst (-1), 1) := by decide +kernel
theorem dX5_sheet_13 : decode cX5_sheet 13 = .ok (.ireturn, 1) := by decide +kernel
theorem dX5_sheet_14 : decode cX5_sheet 14 = .ok (.iload_n 2, 1) := by decide +kernel
theorem dX5_sheet_15 : decode cX5_sheet 15 = .ok (.invokestatic 78, 3) := by decide +kernel
theorem dX5_sheet_18 : decode cX5_sheet 18 = .ok (.ifCond .eq 9, 3) := by decide +kernel
theorem dX5_sheet_21 : decode cX5_sheet 21 = .ok (.iload_n 3, 1) := by decide +kernel
theorem dX5_sheet_22 : decode cX5_sheet 22 = .ok (.bipush 60, 2) := by decide +kernel
theorem dX5_sheet_24 : decode cX5_sheet 24 = .ok (.if_icmp .le 6, 3) := by decide +kernel
theorem dX5_sheet_27 : decode cX5_sheet 27 = .ok (.bipush (-2), 2) := by decide +kernel
theorem dX5_sheet_29 : decode cX5_sheet 29 = .ok (.ireturn, 1) := by decide +kernel
theorem dX5_sheet_30 : decode cX5_sheet 30 = .ok (.iload_n 3, 1) := by decide +kernel
theorem dX5_sheet_31 : decode cX5_sheet 31 = .ok (.ifCond .ge 9, 3) := by decide +kernel
theorem dX5_sheet_34 : decode cX5_sheet 34 = .ok (.aload_n 0, 1) := by decide +kernel
theorem dX5_sheet_35 : decode cX5_sheet 35 = .ok (.iconst 4, 1) := by decide +kernel
theorem dX5_sheet_36 : decode cX5_sheet 36 = .ok (.invokevirtual 85, 3) := by decide +kernel
theorem dX5_sheet_39 : decode cX5_sheet 39 = .ok (.ireturn, 1) := by decide +kernel
theorem dX5_sheet_40 : decode cX5_sheet 40 = .ok (.aload_n 0, 1) := by decide +kernel
theorem dX5_sheet_41 : decode cX5_sheet 41 = .ok (.getfield 9, 3) := by decide +kernel
theorem dX5_sheet_44 : decode cX5_sheet 44 = .ok (.iload_n 1, 1) := by decide +kernel
theorem dX5_sheet_45 : decode cX5_sheet 45 = .ok (.iload_n 2, 1) := by decide +kernel
theorem dX5_sheet_46 : decode cX5_sheet 46 = .ok (.iastore, 1) := by decide +kernel
theorem dX5_sheet_47 : decode cX5_sheet 47 = .ok (.aload_n 0, 1) := by decide +kernel
theorem dX5_sheet_48 : decode cX5_sheet 48 = .ok (.getfield 13, 3) := by decide +kernel
theorem dX5_sheet_51 : decode cX5_sheet 51 = .ok (.iload_n 1, 1) := by decide +kernel
theorem dX5_sheet_52 : decode cX5_sheet 52 = .ok (.iload_n 3, 1) := by decide +kernel
theorem dX5_sheet_53 : decode cX5_sheet 53 = .ok (.iastore, 1) := by decide +kernel
theorem dX5_sheet_54 : decode cX5_sheet 54 = .ok (.iconst 0, 1) := by decide +kernel
theorem dX5_sheet_55 : decode cX5_sheet 55 = .ok (.istore 4, 2) := by decide +kernel
theorem dX5_sheet_57 : decode cX5_sheet 57 = .ok (.iload 4, 2) := by decide +kernel
theorem dX5_sheet_59 : decode cX5_sheet 59 = .ok (.bipush 60, 2) := by decide +kernel
theorem dX5_sheet_61 : decode cX5_sheet 61 = .ok (.if_icmp .ge 22, 3) := by decide +kernel
theorem dX5_sheet_64 : decode cX5_sheet 64 = .ok (.aload_n 0, 1) := by decide +kernel
theorem dX5_sheet_65 : decode cX5_sheet 65 = .ok (.getfield 16, 3) := by decide +kernel
theorem dX5_sheet_68 : decode cX5_sheet 68 = .ok (.bipush 60, 2) := by decide +kernel
theorem dX5_sheet_70 : decode cX5_sheet 70 = .ok (.iload_n 1, 1) := by decide +kernel
theorem dX5_sheet_71 : decode cX5_sheet 71 = .ok (.imul, 1) := by decide +kernel
theorem dX5_sheet_72 : decode cX5_sheet 72 = .ok (.iload 4, 2) := by decide +kernel
theorem dX5_sheet_74 : decode cX5_sheet 74 = .ok (.iadd, 1) := by decide +kernel
theorem dX5_sheet_75 : decode cX5_sheet 75 = .ok (.iconst 0, 1) := by decide +kernel
theorem dX5_sheet_76 : decode cX5_sheet 76 = .ok (.iastore, 1) := by decide +kernel
theorem dX5_sheet_77 : decode cX5_sheet 77 = .ok (.iinc 4 1, 3) := by decide +kernel
theorem dX5_sheet_80 : decode cX5_sheet 80 = .ok (.goto (-23), 3) := by decide +kernel
theorem dX5_sheet_83 : decode cX5_sheet 83 = .ok (.iconst 1, 1) := by decide +kernel
theorem dX5_sheet_84 : decode cX5_sheet 84 = .ok (.ireturn, 1) := by decide +kernel
set_option maxRecDepth 20000 in
theorem ggX5_lose_X5_isSheet : GoodIn wsX5_lose wsX5_isSheet := goodIn_r _ [5, 6, 7, 4, 8] (by decide +kernel) (by decide +kernel)
set_option maxRecDepth 20000 in
theorem gX5_lose_X5_isSheet : GoodIn wsX5_lose (va_wsS RX5 74 yX5_isSheet wsX5_isSheet) := goodIn_app (goodIn_of _ (by decide +kernel)) ggX5_lose_X5_isSheet
theorem dX5_lose_0 : decode cX5_lose 0 = .ok (.iload_n 1, 1) := by decide +kernel
theorem dX5_lose_1 : decode cX5_lose 1 = .ok (.invokestatic 74, 3) := by decide +kernel
theorem dX5_lose_4 : decode cX5_lose 4 = .ok (.ifCond .ne 5, 3) := by decide +kernel
theorem dX5_lose_7 : decode cX5_lose 7 = .ok (.iconst (-1), 1) := by decide +kernel
theorem dX5_lose_8 : decode cX5_lose 8 = .ok (.ireturn, 1) := by decide +kernel
theorem dX5_lose_9 : decode cX5_lose 9 = .ok (.aload_n 0, 1) := by decide +kernel
theorem dX5_lose_10 : decode cX5_lose 10 = .ok (.getfield 9, 3) := by decide +kernel
theorem dX5_lose_13 : decode cX5_lose 13 = .ok (.iload_n 1, 1) := by decide +kernel
theorem dX5_lose_14 : decode cX5_lose 14 = .ok (.iaload, 1) := by decide +kernel
theorem dX5_lose_15 : decode cX5_lose 15 = .ok (.bipush (-9), 2) := by decide +kernel
theorem dX5_lose_17 : decode cX5_lose 17 = .ok (.if_icmp .ne 7, 3) := by decide +kernel
theorem dX5_lose_20 : decode cX5_lose 20 = .ok (.iconst 0, 1) := by decide +kernel
theorem dX5_lose_21 : decode cX5_lose 21 = .ok (.goto 4, 3) := by decide +kernel
theorem dX5_lose_24 : decode cX5_lose 24 = .ok (.iconst 1, 1) := by decide +kernel
theorem dX5_lose_25 : decode cX5_lose 25 = .ok (.istore_n 2, 1) := by decide +kernel
theorem dX5_lose_26 : decode cX5_lose 26 = .ok (.aload_n 0, 1) := by decide +kernel
theorem dX5_lose_27 : decode cX5_lose 27 = .ok (.getfield 9, 3) := by decide +kernel
theorem dX5_lose_30 : decode cX5_lose 30 = .ok (.iload_n 1, 1) := by decide +kernel
theorem dX5_lose_31 : decode cX5_lose 31 = .ok (.bipush (-9), 2) := by decide +kernel
theorem dX5_lose_33 : decode cX5_lose 33 = .ok (.iastore, 1) := by decide +kernel
theorem dX5_lose_34 : decode cX5_lose 34 = .ok (.iload_n 2, 1) := by decide +kernel
theorem dX5_lose_35 : decode cX5_lose 35 = .ok (.ireturn, 1) := by decide +kernel
set_option maxRecDepth 20000 in
theorem ggX5_put_X5_isSheet : GoodIn wsX5_put wsX5_isSheet := goodIn_r _ [8, 9, 10, 7, 11] (by decide +kernel) (by decide +kernel)
set_option maxRecDepth 20000 in
theorem gX5_put_X5_isSheet : GoodIn wsX5_put (va_wsS RX5 74 yX5_isSheet wsX5_isSheet) := goodIn_app (goodIn_of _ (by decide +kernel)) ggX5_put_X5_isSheet
set_option maxRecDepth 20000 in
theorem ggX5_put_X5_fails : GoodIn wsX5_put wsX5_fails := goodIn_r _ [15, 1, 16, 17, 18, 19, 20, 21, 22, 23, 24, 25, 26, 27, 28, 29, 30, 31, 32, 33, 34, 35, 36, 37, 38, 39, 40, 41, 42] (by decide +kernel) (by decide +kernel)
set_option maxRecDepth 20000 in
theorem gX5_put_X5_fails : GoodIn wsX5_put (wsV RX5 85 RX5 yX5_fails wsX5_fails) := goodIn_app (goodIn_of _ (by decide +kernel)) ggX5_put_X5_fails
set_option maxRecDepth 20000 in
theorem ggX5_put_X5_within : GoodIn wsX5_put wsX5_within := goodIn_r _ [11] (by decide +kernel) (by decide +kernel)
set_option maxRecDepth 20000 in
theorem gX5_put_X5_within : GoodIn wsX5_put (va_wsS RX5 61 yX5_within wsX5_within) := goodIn_app (goodIn_of _ (by decide +kernel)) ggX5_put_X5_within
theorem dX5_put_0 : decode cX5_put 0 = .ok (.aload_n 0, 1) := by decide +kernel
theorem dX5_put_1 : decode cX5_put 1 = .ok (.iconst 0, 1) := by decide +kernel
theorem dX5_put_2 : decode cX5_put 2 = .ok (.putfield 55, 3) := by decide +kernel
theorem dX5_put_5 : decode cX5_put 5 = .ok (.iload_n 1, 1) := by decide +kernel
theorem dX5_put_6 : decode cX5_put 6 = .ok (.invokestatic 74, 3) := by decide +kernel
theorem dX5_put_9 : decode cX5_put 9 = .ok (.ifCond .ne 5, 3) := by decide +kernel
theorem dX5_put_12 : decode cX5_put 12 = .ok (.iconst (-1), 1) := by decide +kernel
theorem dX5_put_13 : decode cX5_put 13 = .ok (.ireturn, 1) := by decide +kernel
theorem dX5_put_14 : decode cX5_put 14 = .ok (.aload_n 0, 1) := by decide +kernel
theorem dX5_put_15 : decode cX5_put 15 = .ok (.getfield 9, 3) := by decide +kernel
theorem dX5_put_18 : decode cX5_put 18 = .ok (.iload_n 1, 1) := by decide +kernel
theorem dX5_put_19 : decode cX5_put 19 = .ok (.iaload, 1) := by decide +kernel
theorem dX5_put_20 : decode cX5_put 20 = .ok (.bipush (-9), 2) := by decide +kernel
theorem dX5_put_22 : decode cX5_put 22 = .ok (.if_icmp .ne 9, 3) := by decide +kernel
theorem dX5_put_25 : decode cX5_put 25 = .ok (.aload_n 0, 1) := by decide +kernel
theorem dX5_put_26 : decode cX5_put 26 = .ok (.iconst 1, 1) := by decide +kernel
theorem dX5_put_27 : decode cX5_put 27 = .ok (.invokevirtual 85, 3) := by decide +kernel
theorem dX5_put_30 : decode cX5_put 30 = .ok (.ireturn, 1) := by decide +kernel
theorem dX5_put_31 : decode cX5_put 31 = .ok (.iload_n 2, 1) := by decide +kernel
theorem dX5_put_32 : decode cX5_put 32 = .ok (.iconst 0, 1) := by decide +kernel
theorem dX5_put_33 : decode cX5_put 33 = .ok (.aload_n 0, 1) := by decide +kernel
theorem dX5_put_34 : decode cX5_put 34 = .ok (.getfield 13, 3) := by decide +kernel
theorem dX5_put_37 : decode cX5_put 37 = .ok (.iload_n 1, 1) := by decide +kernel
theorem dX5_put_38 : decode cX5_put 38 = .ok (.iaload, 1) := by decide +kernel
theorem dX5_put_39 : decode cX5_put 39 = .ok (.iconst 1, 1) := by decide +kernel
theorem dX5_put_40 : decode cX5_put 40 = .ok (.isub, 1) := by decide +kernel
theorem dX5_put_41 : decode cX5_put 41 = .ok (.invokestatic 61, 3) := by decide +kernel
theorem dX5_put_44 : decode cX5_put 44 = .ok (.ifCond .ne 9, 3) := by decide +kernel
theorem dX5_put_47 : decode cX5_put 47 = .ok (.aload_n 0, 1) := by decide +kernel
theorem dX5_put_48 : decode cX5_put 48 = .ok (.iconst 3, 1) := by decide +kernel
theorem dX5_put_49 : decode cX5_put 49 = .ok (.invokevirtual 85, 3) := by decide +kernel
theorem dX5_put_52 : decode cX5_put 52 = .ok (.ireturn, 1) := by decide +kernel
theorem dX5_put_53 : decode cX5_put 53 = .ok (.aload_n 0, 1) := by decide +kernel
theorem dX5_put_54 : decode cX5_put 54 = .ok (.getfield 16, 3) := by decide +kernel
theorem dX5_put_57 : decode cX5_put 57 = .ok (.bipush 60, 2) := by decide +kernel
theorem dX5_put_59 : decode cX5_put 59 = .ok (.iload_n 1, 1) := by decide +kernel
theorem dX5_put_60 : decode cX5_put 60 = .ok (.imul, 1) := by decide +kernel
theorem dX5_put_61 : decode cX5_put 61 = .ok (.iload_n 2, 1) := by decide +kernel
theorem dX5_put_62 : decode cX5_put 62 = .ok (.iadd, 1) := by decide +kernel
theorem dX5_put_63 : decode cX5_put 63 = .ok (.aload_n 0, 1) := by decide +kernel
theorem dX5_put_64 : decode cX5_put 64 = .ok (.getfield 9, 3) := by decide +kernel
theorem dX5_put_67 : decode cX5_put 67 = .ok (.iload_n 1, 1) := by decide +kernel
theorem dX5_put_68 : decode cX5_put 68 = .ok (.iaload, 1) := by decide +kernel
theorem dX5_put_69 : decode cX5_put 69 = .ok (.ifCond .ne 8, 3) := by decide +kernel
theorem dX5_put_72 : decode cX5_put 72 = .ok (.iload_n 3, 1) := by decide +kernel
theorem dX5_put_73 : decode cX5_put 73 = .ok (.i2b, 1) := by decide +kernel
theorem dX5_put_74 : decode cX5_put 74 = .ok (.goto 19, 3) := by decide +kernel
theorem dX5_put_77 : decode cX5_put 77 = .ok (.aload_n 0, 1) := by decide +kernel
theorem dX5_put_78 : decode cX5_put 78 = .ok (.getfield 9, 3) := by decide +kernel
theorem dX5_put_81 : decode cX5_put 81 = .ok (.iload_n 1, 1) := by decide +kernel
theorem dX5_put_82 : decode cX5_put 82 = .ok (.iaload, 1) := by decide +kernel
theorem dX5_put_83 : decode cX5_put 83 = .ok (.iconst 1, 1) := by decide +kernel
theorem dX5_put_84 : decode cX5_put 84 = .ok (.if_icmp .ne 8, 3) := by decide +kernel
theorem dX5_put_87 : decode cX5_put 87 = .ok (.iload_n 3, 1) := by decide +kernel
theorem dX5_put_88 : decode cX5_put 88 = .ok (.i2s, 1) := by decide +kernel
theorem dX5_put_89 : decode cX5_put 89 = .ok (.goto 4, 3) := by decide +kernel
theorem dX5_put_92 : decode cX5_put 92 = .ok (.iload_n 3, 1) := by decide +kernel
theorem dX5_put_93 : decode cX5_put 93 = .ok (.iastore, 1) := by decide +kernel
theorem dX5_put_94 : decode cX5_put 94 = .ok (.iconst 1, 1) := by decide +kernel
theorem dX5_put_95 : decode cX5_put 95 = .ok (.ireturn, 1) := by decide +kernel
set_option maxRecDepth 20000 in
theorem ggX5_cell_X5_isSheet : GoodIn wsX5_cell wsX5_isSheet := goodIn_r _ [9, 10, 11, 8, 12] (by decide +kernel) (by decide +kernel)
set_option maxRecDepth 20000 in
theorem gX5_cell_X5_isSheet : GoodIn wsX5_cell (va_wsS RX5 74 yX5_isSheet wsX5_isSheet) := goodIn_app (goodIn_of _ (by decide +kernel)) ggX5_cell_X5_isSheet
set_option maxRecDepth 20000 in
theorem ggX5_cell_X5_isSort : GoodIn wsX5_cell wsX5_isSort := goodIn_r _ [15, 10, 11, 8, 12] (by decide +kernel) (by decide +kernel)
set_option maxRecDepth 20000 in
theorem gX5_cell_X5_isSort : GoodIn wsX5_cell (va_wsS RX5 78 yX5_isSort wsX5_isSort) := goodIn_app (goodIn_of _ (by decide +kernel)) ggX5_cell_X5_isSort
set_option maxRecDepth 20000 in
theorem ggX5_cell_X5_lost : GoodIn wsX5_cell wsX5_lost := goodIn_r _ [19, 1, 2, 20, 21, 22, 23, 24, 25, 26, 27, 28, 29, 30, 31, 32, 33, 34, 35, 36, 37, 38, 39, 40, 41, 42, 43, 44, 45, 46] (by decide +kernel) (by decide +kernel)
set_option maxRecDepth 20000 in
theorem gX5_cell_X5_lost : GoodIn wsX5_cell (wsV RX5 186 RX5 yX5_lost wsX5_lost) := goodIn_app (goodIn_of _ (by decide +kernel)) ggX5_cell_X5_lost
set_option maxRecDepth 20000 in
theorem ggX5_cell_X5_within : GoodIn wsX5_cell wsX5_within := goodIn_r _ [12] (by decide +kernel) (by decide +kernel)
set_option maxRecDepth 20000 in
theorem gX5_cell_X5_within : GoodIn wsX5_cell (va_wsS RX5 61 yX5_within wsX5_within) := goodIn_app (goodIn_of _ (by decide +kernel)) ggX5_cell_X5_within
theorem dX5_cell_0 : decode cX5_cell 0 = .ok (.aload_n 0, 1) := by decide +kernel
theorem dX5_cell_1 : decode cX5_cell 1 = .ok (.iconst 0, 1) := by decide +kernel
theorem dX5_cell_2 : decode cX5_cell 2 = .ok (.putfield 55, 3) := by decide +kernel
theorem dX5_cell_5 : decode cX5_cell 5 = .ok (.iload_n 1, 1) := by decide +kernel
theorem dX5_cell_6 : decode cX5_cell 6 = .ok (.invokestatic 74, 3) := by decide +kernel
theorem dX5_cell_9 : decode cX5_cell 9 = .ok (.ifCond .eq 10, 3) := by decide +kernel
theorem dX5_cell_12 : decode cX5_cell 12 = .ok (.iload_n 3, 1) := by decide +kernel
theorem dX5_cell_13 : decode cX5_cell 13 = .ok (.invokestatic 78, 3) := by decide +kernel
theorem dX5_cell_16 : decode cX5_cell 16 = .ok (.ifCond .ne 7, 3) := by decide +kernel
theorem dX5_cell_19 : decode cX5_cell 19 = .ok (.ldc2_w 59, 3) := by decide +kernel
theorem dX5_cell_22 : decode cX5_cell 22 = .ok (.lreturn, 1) := by decide +kernel
theorem dX5_cell_23 : decode cX5_cell 23 = .ok (.aload_n 0, 1) := by decide +kernel
theorem dX5_cell_24 : decode cX5_cell 24 = .ok (.getfield 9, 3) := by decide +kernel
theorem dX5_cell_27 : decode cX5_cell 27 = .ok (.iload_n 1, 1) := by decide +kernel
theorem dX5_cell_28 : decode cX5_cell 28 = .ok (.iaload, 1) := by decide +kernel
theorem dX5_cell_29 : decode cX5_cell 29 = .ok (.bipush (-9), 2) := by decide +kernel
theorem dX5_cell_31 : decode cX5_cell 31 = .ok (.if_icmp .eq 19, 3) := by decide +kernel
theorem dX5_cell_34 : decode cX5_cell 34 = .ok (.aload_n 0, 1) := by decide +kernel
theorem dX5_cell_35 : decode cX5_cell 35 = .ok (.getfield 9, 3) := by decide +kernel
theorem dX5_cell_38 : decode cX5_cell 38 = .ok (.iload_n 1, 1) := by decide +kernel
theorem dX5_cell_39 : decode cX5_cell 39 = .ok (.iaload, 1) := by decide +kernel
theorem dX5_cell_40 : decode cX5_cell 40 = .ok (.iload_n 3, 1) := by decide +kernel
theorem dX5_cell_41 : decode cX5_cell 41 = .ok (.if_icmp .eq 9, 3) := by decide +kernel
theorem dX5_cell_44 : decode cX5_cell 44 = .ok (.aload_n 0, 1) := by decide +kernel
theorem dX5_cell_45 : decode cX5_cell 45 = .ok (.iconst 2, 1) := by decide +kernel
theorem dX5_cell_46 : decode cX5_cell 46 = .ok (.invokevirtual 186, 3) := by decide +kernel
theorem dX5_cell_49 : decode cX5_cell 49 = .ok (.lreturn, 1) := by decide +kernel
theorem dX5_cell_50 : decode cX5_cell 50 = .ok (.aload_n 0, 1) := by decide +kernel
theorem dX5_cell_51 : decode cX5_cell 51 = .ok (.getfield 9, 3) := by decide +kernel
theorem dX5_cell_54 : decode cX5_cell 54 = .ok (.iload_n 1, 1) := by decide +kernel
theorem dX5_cell_55 : decode cX5_cell 55 = .ok (.iaload, 1) := by decide +kernel
theorem dX5_cell_56 : decode cX5_cell 56 = .ok (.bipush (-9), 2) := by decide +kernel
theorem dX5_cell_58 : decode cX5_cell 58 = .ok (.if_icmp .ne 9, 3) := by decide +kernel
theorem dX5_cell_61 : decode cX5_cell 61 = .ok (.aload_n 0, 1) := by decide +kernel
theorem dX5_cell_62 : decode cX5_cell 62 = .ok (.iconst 1, 1) := by decide +kernel
theorem dX5_cell_63 : decode cX5_cell 63 = .ok (.invokevirtual 186, 3) := by decide +kernel
theorem dX5_cell_66 : decode cX5_cell 66 = .ok (.lreturn, 1) := by decide +kernel
theorem dX5_cell_67 : decode cX5_cell 67 = .ok (.iload_n 2, 1) := by decide +kernel
theorem dX5_cell_68 : decode cX5_cell 68 = .ok (.iconst 0, 1) := by decide +kernel
theorem dX5_cell_69 : decode cX5_cell 69 = .ok (.aload_n 0, 1) := by decide +kernel
theorem dX5_cell_70 : decode cX5_cell 70 = .ok (.getfield 13, 3) := by decide +kernel
theorem dX5_cell_73 : decode cX5_cell 73 = .ok (.iload_n 1, 1) := by decide +kernel
theorem dX5_cell_74 : decode cX5_cell 74 = .ok (.iaload, 1) := by decide +kernel
theorem dX5_cell_75 : decode cX5_cell 75 = .ok (.iconst 1, 1) := by decide +kernel
theorem dX5_cell_76 : decode cX5_cell 76 = .ok (.isub, 1) := by decide +kernel
theorem dX5_cell_77 : decode cX5_cell 77 = .ok (.invokestatic 61, 3) := by decide +kernel
theorem dX5_cell_80 : decode cX5_cell 80 = .ok (.ifCond .ne 9, 3) := by decide +kernel
theorem dX5_cell_83 : decode cX5_cell 83 = .ok (.aload_n 0, 1) := by decide +kernel
theorem dX5_cell_84 : decode cX5_cell 84 = .ok (.iconst 3, 1) := by decide +kernel
theorem dX5_cell_85 : decode cX5_cell 85 = .ok (.invokevirtual 186, 3) := by decide +kernel
theorem dX5_cell_88 : decode cX5_cell 88 = .ok (.lreturn, 1) := by decide +kernel
theorem dX5_cell_89 : decode cX5_cell 89 = .ok (.aload_n 0, 1) := by decide +kernel
theorem dX5_cell_90 : decode cX5_cell 90 = .ok (.getfield 16, 3) := by decide +kernel
theorem dX5_cell_93 : decode cX5_cell 93 = .ok (.bipush 60, 2) := by decide +kernel
theorem dX5_cell_95 : decode cX5_cell 95 = .ok (.iload_n 1, 1) := by decide +kernel
theorem dX5_cell_96 : decode cX5_cell 96 = .ok (.imul, 1) := by decide +kernel
theorem dX5_cell_97 : decode cX5_cell 97 = .ok (.iload_n 2, 1) := by decide +kernel
theorem dX5_cell_98 : decode cX5_cell 98 = .ok (.iadd, 1) := by decide +kernel
theorem dX5_cell_99 : decode cX5_cell 99 = .ok (.iaload, 1) := by decide +kernel
theorem dX5_cell_100 : decode cX5_cell 100 = .ok (.i2l, 1) := by decide +kernel
theorem dX5_cell_101 : decode cX5_cell 101 = .ok (.lreturn, 1) := by decide +kernel
set_option maxRecDepth 20000 in
theorem ggX5_copy_X5_isSheet : GoodIn wsX5_copy wsX5_isSheet := goodIn_r _ [8, 9, 10, 7, 11] (by decide +kernel) (by decide +kernel)
set_option maxRecDepth 20000 in
theorem gX5_copy_X5_isSheet : GoodIn wsX5_copy (va_wsS RX5 74 yX5_isSheet wsX5_isSheet) := goodIn_app (goodIn_of _ (by decide +kernel)) ggX5_copy_X5_isSheet
set_option maxRecDepth 20000 in
theorem ggX5_copy_X5_fails : GoodIn wsX5_copy wsX5_fails := goodIn_r _ [15, 1, 16, 17, 18, 19, 20, 21, 22, 23, 24, 25, 26, 27, 28, 29, 30, 31, 32, 33, 34, 35, 36, 37, 38, 39, 40, 41, 42] (by decide +kernel) (by decide +kernel)
set_option maxRecDepth 20000 in
theorem gX5_copy_X5_fails : GoodIn wsX5_copy (wsV RX5 85 RX5 yX5_fails wsX5_fails) := goodIn_app (goodIn_of _ (by decide +kernel)) ggX5_copy_X5_fails
theorem dX5_copy_0 : decode cX5_copy 0 = .ok (.aload_n 0, 1) := by decide +kernel
theorem dX5_copy_1 : decode cX5_copy 1 = .ok (.iconst 0, 1) := by decide +kernel
theorem dX5_copy_2 : decode cX5_copy 2 = .ok (.putfield 55, 3) := by decide +kernel
theorem dX5_copy_5 : decode cX5_copy 5 = .ok (.iload_n 1, 1) := by decide +kernel
theorem dX5_copy_6 : decode cX5_copy 6 = .ok (.invokestatic 74, 3) := by decide +kernel
theorem dX5_copy_9 : decode cX5_copy 9 = .ok (.ifCond .eq 10, 3) := by decide +kernel
theorem dX5_copy_12 : decode cX5_copy 12 = .ok (.iload_n 3, 1) := by decide +kernel
theorem dX5_copy_13 : decode cX5_copy 13 = .ok (.invokestatic 74, 3) := by decide +kernel
theorem dX5_copy_16 : decode cX5_copy 16 = .ok (.ifCond .ne 5, 3) := by decide +kernel
theorem dX5_copy_19 : decode cX5_copy 19 = .ok (.iconst (-1), 1) := by decide +kernel
theorem dX5_copy_20 : decode cX5_copy 20 = .ok (.ireturn, 1) := by decide +kernel
theorem dX5_copy_21 : decode cX5_copy 21 = .ok (.aload_n 0, 1) := by decide +kernel
theorem dX5_copy_22 : decode cX5_copy 22 = .ok (.getfield 9, 3) := by decide +kernel
theorem dX5_copy_25 : decode cX5_copy 25 = .ok (.iload_n 1, 1) := by decide +kernel
theorem dX5_copy_26 : decode cX5_copy 26 = .ok (.iaload, 1) := by decide +kernel
theorem dX5_copy_27 : decode cX5_copy 27 = .ok (.bipush (-9), 2) := by decide +kernel
theorem dX5_copy_29 : decode cX5_copy 29 = .ok (.if_icmp .eq 14, 3) := by decide +kernel
theorem dX5_copy_32 : decode cX5_copy 32 = .ok (.aload_n 0, 1) := by decide +kernel
theorem dX5_copy_33 : decode cX5_copy 33 = .ok (.getfield 9, 3) := by decide +kernel
theorem dX5_copy_36 : decode cX5_copy 36 = .ok (.iload_n 3, 1) := by decide +kernel
theorem dX5_copy_37 : decode cX5_copy 37 = .ok (.iaload, 1) := by decide +kernel
theorem dX5_copy_38 : decode cX5_copy 38 = .ok (.bipush (-9), 2) := by decide +kernel
theorem dX5_copy_40 : decode cX5_copy 40 = .ok (.if_icmp .ne 9, 3) := by decide +kernel
theorem dX5_copy_43 : decode cX5_copy 43 = .ok (.aload_n 0, 1) := by decide +kernel
theorem dX5_copy_44 : decode cX5_copy 44 = .ok (.iconst 1, 1) := by decide +kernel
theorem dX5_copy_45 : decode cX5_copy 45 = .ok (.invokevirtual 85, 3) := by decide +kernel
theorem dX5_copy_48 : decode cX5_copy 48 = .ok (.ireturn, 1) := by decide +kernel
theorem dX5_copy_49 : decode cX5_copy 49 = .ok (.aload_n 0, 1) := by decide +kernel
theorem dX5_copy_50 : decode cX5_copy 50 = .ok (.getfield 9, 3) := by decide +kernel
theorem dX5_copy_53 : decode cX5_copy 53 = .ok (.iload_n 1, 1) := by decide +kernel
theorem dX5_copy_54 : decode cX5_copy 54 = .ok (.iaload, 1) := by decide +kernel
theorem dX5_copy_55 : decode cX5_copy 55 = .ok (.aload_n 0, 1) := by decide +kernel
theorem dX5_copy_56 : decode cX5_copy 56 = .ok (.getfield 9, 3) := by decide +kernel
theorem dX5_copy_59 : decode cX5_copy 59 = .ok (.iload_n 3, 1) := by decide +kernel
theorem dX5_copy_60 : decode cX5_copy 60 = .ok (.iaload, 1) := by decide +kernel
theorem dX5_copy_61 : decode cX5_copy 61 = .ok (.if_icmp .eq 9, 3) := by decide +kernel
theorem dX5_copy_64 : decode cX5_copy 64 = .ok (.aload_n 0, 1) := by decide +kernel
theorem dX5_copy_65 : decode cX5_copy 65 = .ok (.iconst 2, 1) := by decide +kernel
theorem dX5_copy_66 : decode cX5_copy 66 = .ok (.invokevirtual 85, 3) := by decide +kernel
theorem dX5_copy_69 : decode cX5_copy 69 = .ok (.ireturn, 1) := by decide +kernel
theorem dX5_copy_70 : decode cX5_copy 70 = .ok (.iload_n 2, 1) := by decide +kernel
theorem dX5_copy_71 : decode cX5_copy 71 = .ok (.ifCond .lt 38, 3) := by decide +kernel
theorem dX5_copy_74 : decode cX5_copy 74 = .ok (.iload 4, 2) := by decide +kernel
theorem dX5_copy_76 : decode cX5_copy 76 = .ok (.ifCond .lt 33, 3) := by decide +kernel
theorem dX5_copy_79 : decode cX5_copy 79 = .ok (.iload 5, 2) := by decide +kernel
theorem dX5_copy_81 : decode cX5_copy 81 = .ok (.ifCond .lt 28, 3) := by decide +kernel
theorem dX5_copy_84 : decode cX5_copy 84 = .ok (.iload_n 2, 1) := by decide +kernel
theorem dX5_copy_85 : decode cX5_copy 85 = .ok (.aload_n 0, 1) := by decide +kernel
theorem dX5_copy_86 : decode cX5_copy 86 = .ok (.getfield 13, 3) := by decide +kernel
theorem dX5_copy_89 : decode cX5_copy 89 = .ok (.iload_n 1, 1) := by decide +kernel
theorem dX5_copy_90 : decode cX5_copy 90 = .ok (.iaload, 1) := by decide +kernel
theorem dX5_copy_91 : decode cX5_copy 91 = .ok (.if_icmp .gt 18, 3) := by decide +kernel
theorem dX5_copy_94 : decode cX5_copy 94 = .ok (.iload 4, 2) := by decide +kernel
theorem dX5_copy_96 : decode cX5_copy 96 = .ok (.aload_n 0, 1) := by decide +kernel
theorem dX5_copy_97 : decode cX5_copy 97 = .ok (.getfield 13, 3) := by decide +kernel
theorem dX5_copy_100 : decode cX5_copy 100 = .ok (.iload_n 3, 1) := by decide +kernel
theorem dX5_copy_101 : decode cX5_copy 101 = .ok (.iaload, 1) := by decide +kernel
theorem dX5_copy_102 : decode cX5_copy 102 = .ok (.if_icmp .gt 7, 3) := by decide +kernel
theorem dX5_copy_105 : decode cX5_copy 105 = .ok (.iconst 1, 1) := by decide +kernel
theorem dX5_copy_106 : decode cX5_copy 106 = .ok (.goto 4, 3) := by decide +kernel
theorem dX5_copy_109 : decode cX5_copy 109 = .ok (.iconst 0, 1) := by decide +kernel
theorem dX5_copy_110 : decode cX5_copy 110 = .ok (.istore 6, 2) := by decide +kernel
theorem dX5_copy_112 : decode cX5_copy 112 = .ok (.iload 6, 2) := by decide +kernel
theorem dX5_copy_114 : decode cX5_copy 114 = .ok (.ifCond .eq 30, 3) := by decide +kernel
theorem dX5_copy_117 : decode cX5_copy 117 = .ok (.iload 5, 2) := by decide +kernel
theorem dX5_copy_119 : decode cX5_copy 119 = .ok (.aload_n 0, 1) := by decide +kernel
theorem dX5_copy_120 : decode cX5_copy 120 = .ok (.getfield 13, 3) := by decide +kernel
theorem dX5_copy_123 : decode cX5_copy 123 = .ok (.iload_n 1, 1) := by decide +kernel
theorem dX5_copy_124 : decode cX5_copy 124 = .ok (.iaload, 1) := by decide +kernel
theorem dX5_copy_125 : decode cX5_copy 125 = .ok (.iload_n 2, 1) := by decide +kernel
theorem dX5_copy_126 : decode cX5_copy 126 = .ok (.isub, 1) := by decide +kernel
theorem dX5_copy_127 : decode cX5_copy 127 = .ok (.if_icmp .gt 17, 3) := by decide +kernel
theorem dX5_copy_130 : decode cX5_copy 130 = .ok (.iload 5, 2) := by decide +kernel
theorem dX5_copy_132 : decode cX5_copy 132 = .ok (.aload_n 0, 1) := by decide +kernel
theorem dX5_copy_133 : decode cX5_copy 133 = .ok (.getfield 13, 3) := by decide +kernel
theorem dX5_copy_136 : decode cX5_copy 136 = .ok (.iload_n 3, 1) := by decide +kernel
theorem dX5_copy_137 : decode cX5_copy 137 = .ok (.iaload, 1) := by decide +kernel
theorem dX5_copy_138 : decode cX5_copy 138 = .ok (.iload 4, 2) := by decide +kernel
theorem dX5_copy_140 : decode cX5_copy 140 = .ok (.isub, 1) := by decide +kernel
theorem dX5_copy_141 : decode cX5_copy 141 = .ok (.if_icmp .le 9, 3) := by decide +kernel
theorem dX5_copy_144 : decode cX5_copy 144 = .ok (.aload_n 0, 1) := by decide +kernel
theorem dX5_copy_145 : decode cX5_copy 145 = .ok (.iconst 3, 1) := by decide +kernel
theorem dX5_copy_146 : decode cX5_copy 146 = .ok (.invokevirtual 85, 3) := by decide +kernel
theorem dX5_copy_149 : decode cX5_copy 149 = .ok (.ireturn, 1) := by decide +kernel
theorem dX5_copy_150 : decode cX5_copy 150 = .ok (.iload_n 2, 1) := by decide +kernel
theorem dX5_copy_151 : decode cX5_copy 151 = .ok (.iload 4, 2) := by decide +kernel
theorem dX5_copy_153 : decode cX5_copy 153 = .ok (.if_icmp .ge 7, 3) := by decide +kernel
theorem dX5_copy_156 : decode cX5_copy 156 = .ok (.iconst 1, 1) := by decide +kernel
theorem dX5_copy_157 : decode cX5_copy 157 = .ok (.goto 4, 3) := by decide +kernel
theorem dX5_copy_160 : decode cX5_copy 160 = .ok (.iconst 0, 1) := by decide +kernel
theorem dX5_copy_161 : decode cX5_copy 161 = .ok (.istore 7, 2) := by decide +kernel
theorem dX5_copy_163 : decode cX5_copy 163 = .ok (.iconst 0, 1) := by decide +kernel
theorem dX5_copy_164 : decode cX5_copy 164 = .ok (.istore 8, 2) := by decide +kernel
theorem dX5_copy_166 : decode cX5_copy 166 = .ok (.iload 8, 2) := by decide +kernel
theorem dX5_copy_168 : decode cX5_copy 168 = .ok (.iload 5, 2) := by decide +kernel
theorem dX5_copy_170 : decode cX5_copy 170 = .ok (.if_icmp .ge 57, 3) := by decide +kernel
theorem dX5_copy_173 : decode cX5_copy 173 = .ok (.iload 7, 2) := by decide +kernel
theorem dX5_copy_175 : decode cX5_copy 175 = .ok (.ifCond .eq 13, 3) := by decide +kernel
theorem dX5_copy_178 : decode cX5_copy 178 = .ok (.iload 5, 2) := by decide +kernel
theorem dX5_copy_180 : decode cX5_copy 180 = .ok (.iconst 1, 1) := by decide +kernel
theorem dX5_copy_181 : decode cX5_copy 181 = .ok (.isub, 1) := by decide +kernel
theorem dX5_copy_182 : decode cX5_copy 182 = .ok (.iload 8, 2) := by decide +kernel
theorem dX5_copy_184 : decode cX5_copy 184 = .ok (.isub, 1) := by decide +kernel
theorem dX5_copy_185 : decode cX5_copy 185 = .ok (.goto 5, 3) := by decide +kernel
theorem dX5_copy_188 : decode cX5_copy 188 = .ok (.iload 8, 2) := by decide +kernel
theorem dX5_copy_190 : decode cX5_copy 190 = .ok (.istore 9, 2) := by decide +kernel
theorem dX5_copy_192 : decode cX5_copy 192 = .ok (.aload_n 0, 1) := by decide +kernel
theorem dX5_copy_193 : decode cX5_copy 193 = .ok (.getfield 16, 3) := by decide +kernel
theorem dX5_copy_196 : decode cX5_copy 196 = .ok (.bipush 60, 2) := by decide +kernel
theorem dX5_copy_198 : decode cX5_copy 198 = .ok (.iload_n 3, 1) := by decide +kernel
theorem dX5_copy_199 : decode cX5_copy 199 = .ok (.imul, 1) := by decide +kernel
theorem dX5_copy_200 : decode cX5_copy 200 = .ok (.iload 4, 2) := by decide +kernel
theorem dX5_copy_202 : decode cX5_copy 202 = .ok (.iadd, 1) := by decide +kernel
theorem dX5_copy_203 : decode cX5_copy 203 = .ok (.iload 9, 2) := by decide +kernel
theorem dX5_copy_205 : decode cX5_copy 205 = .ok (.iadd, 1) := by decide +kernel
theorem dX5_copy_206 : decode cX5_copy 206 = .ok (.aload_n 0, 1) := by decide +kernel
theorem dX5_copy_207 : decode cX5_copy 207 = .ok (.getfield 16, 3) := by decide +kernel
theorem dX5_copy_210 : decode cX5_copy 210 = .ok (.bipush 60, 2) := by decide +kernel
theorem dX5_copy_212 : decode cX5_copy 212 = .ok (.iload_n 1, 1) := by decide +kernel
theorem dX5_copy_213 : decode cX5_copy 213 = .ok (.imul, 1) := by decide +kernel
theorem dX5_copy_214 : decode cX5_copy 214 = .ok (.iload_n 2, 1) := by decide +kernel
theorem dX5_copy_215 : decode cX5_copy 215 = .ok (.iadd, 1) := by decide +kernel
theorem dX5_copy_216 : decode cX5_copy 216 = .ok (.iload 9, 2) := by decide +kernel
theorem dX5_copy_218 : decode cX5_copy 218 = .ok (.iadd, 1) := by decide +kernel
theorem dX5_copy_219 : decode cX5_copy 219 = .ok (.iaload, 1) := by decide +kernel
theorem dX5_copy_220 : decode cX5_copy 220 = .ok (.iastore, 1) := by decide +kernel
theorem dX5_copy_221 : decode cX5_copy 221 = .ok (.iinc 8 1, 3) := by decide +kernel
theorem dX5_copy_224 : decode cX5_copy 224 = .ok (.goto (-58), 3) := by decide +kernel
theorem dX5_copy_227 : decode cX5_copy 227 = .ok (.iload 5, 2) := by decide +kernel
theorem dX5_copy_229 : decode cX5_copy 229 = .ok (.ireturn, 1) := by decide +kernel
theorem dX5_begins_0 : decode cX5_begins 0 = .ok (.aload_n 0, 1) := by decide +kernel
theorem dX5_begins_1 : decode cX5_begins 1 = .ok (.bipush 31, 2) := by decide +kernel
theorem dX5_begins_3 : decode cX5_begins 3 = .ok (.aload_n 0, 1) := by decide +kernel
theorem dX5_begins_4 : decode cX5_begins 4 = .ok (.getfield 190, 3) := by decide +kernel
theorem dX5_begins_7 : decode cX5_begins 7 = .ok (.imul, 1) := by decide +kernel
theorem dX5_begins_8 : decode cX5_begins 8 = .ok (.iload_n 1, 1) := by decide +kernel
theorem dX5_begins_9 : decode cX5_begins 9 = .ok (.iadd, 1) := by decide +kernel
theorem dX5_begins_10 : decode cX5_begins 10 = .ok (.putfield 190, 3) := by decide +kernel
theorem dX5_begins_13 : decode cX5_begins 13 = .ok (.return_, 1) := by decide +kernel
set_option maxRecDepth 20000 in
theorem ggX5_tell_X5_isPupil : GoodIn wsX5_tell wsX5_isPupil := goodIn_r _ [7, 8, 14, 15, 16, 17, 18, 19, 20, 21, 22, 23, 24, 25, 26, 27, 28, 29, 30, 31, 32, 33, 34, 35, 36, 37, 38, 39, 40] (by decide +kernel) (by decide +kernel)
set_option maxRecDepth 20000 in
theorem gX5_tell_X5_isPupil : GoodIn wsX5_tell (wsV RX5 130 RX5 yX5_isPupil wsX5_isPupil) := goodIn_app (goodIn_of _ (by decide +kernel)) ggX5_tell_X5_isPupil
set_option maxRecDepth 20000 in
theorem ggX5_tell_X5_begins : GoodIn wsX5_tell wsX5_begins := goodIn_r _ [12, 13, 14, 15, 16, 17, 18, 19, 20, 21, 22, 23, 24, 25, 26, 27, 28, 29, 30, 31, 32, 33, 34, 35, 36, 37, 38, 39, 40] (by decide +kernel) (by decide +kernel)
set_option maxRecDepth 20000 in
theorem gX5_tell_X5_begins : GoodIn wsX5_tell (wsV RX5 193 RX5 yX5_begins wsX5_begins) := goodIn_app (goodIn_of _ (by decide +kernel)) ggX5_tell_X5_begins
theorem dX5_tell_0 : decode cX5_tell 0 = .ok (.aload_n 0, 1) := by decide +kernel
theorem dX5_tell_1 : decode cX5_tell 1 = .ok (.iload_n 1, 1) := by decide +kernel
theorem dX5_tell_2 : decode cX5_tell 2 = .ok (.invokevirtual 130, 3) := by decide +kernel
theorem dX5_tell_5 : decode cX5_tell 5 = .ok (.ifCond .ne 5, 3) := by decide +kernel
theorem dX5_tell_8 : decode cX5_tell 8 = .ok (.iconst (-1), 1) := by decide +kernel
theorem dX5_tell_9 : decode cX5_tell 9 = .ok (.ireturn, 1) := by decide +kernel
theorem dX5_tell_10 : decode cX5_tell 10 = .ok (.aload_n 0, 1) := by decide +kernel
theorem dX5_tell_11 : decode cX5_tell 11 = .ok (.getfield 28, 3) := by decide +kernel
theorem dX5_tell_14 : decode cX5_tell 14 = .ok (.iload_n 1, 1) := by decide +kernel
theorem dX5_tell_15 : decode cX5_tell 15 = .ok (.iaload, 1) := by decide +kernel
theorem dX5_tell_16 : decode cX5_tell 16 = .ok (.istore_n 2, 1) := by decide +kernel
theorem dX5_tell_17 : decode cX5_tell 17 = .ok (.aload_n 0, 1) := by decide +kernel
theorem dX5_tell_18 : decode cX5_tell 18 = .ok (.getfield 22, 3) := by decide +kernel
theorem dX5_tell_21 : decode cX5_tell 21 = .ok (.iload_n 1, 1) := by decide +kernel
theorem dX5_tell_22 : decode cX5_tell 22 = .ok (.iaload, 1) := by decide +kernel
theorem dX5_tell_23 : decode cX5_tell 23 = .ok (.lookupswitch 67 #[(1, 25), (2, 40)], 25) := by decide +kernel
theorem dX5_tell_48 : decode cX5_tell 48 = .ok (.aload_n 0, 1) := by decide +kernel
theorem dX5_tell_49 : decode cX5_tell 49 = .ok (.iconst 2, 1) := by decide +kernel
theorem dX5_tell_50 : decode cX5_tell 50 = .ok (.invokevirtual 193, 3) := by decide +kernel
theorem dX5_tell_53 : decode cX5_tell 53 = .ok (.aload_n 0, 1) := by decide +kernel
theorem dX5_tell_54 : decode cX5_tell 54 = .ok (.iconst 1, 1) := by decide +kernel
theorem dX5_tell_55 : decode cX5_tell 55 = .ok (.invokevirtual 193, 3) := by decide +kernel
theorem dX5_tell_58 : decode cX5_tell 58 = .ok (.iload_n 2, 1) := by decide +kernel
theorem dX5_tell_59 : decode cX5_tell 59 = .ok (.bipush 100, 2) := by decide +kernel
theorem dX5_tell_61 : decode cX5_tell 61 = .ok (.iadd, 1) := by decide +kernel
theorem dX5_tell_62 : decode cX5_tell 62 = .ok (.ireturn, 1) := by decide +kernel
theorem dX5_tell_63 : decode cX5_tell 63 = .ok (.aload_n 0, 1) := by decide +kernel
theorem dX5_tell_64 : decode cX5_tell 64 = .ok (.iconst 3, 1) := by decide +kernel
theorem dX5_tell_65 : decode cX5_tell 65 = .ok (.invokevirtual 193, 3) := by decide +kernel
theorem dX5_tell_68 : decode cX5_tell 68 = .ok (.aload_n 0, 1) := by decide +kernel
theorem dX5_tell_69 : decode cX5_tell 69 = .ok (.iconst 2, 1) := by decide +kernel
theorem dX5_tell_70 : decode cX5_tell 70 = .ok (.invokevirtual 193, 3) := by decide +kernel
theorem dX5_tell_73 : decode cX5_tell 73 = .ok (.aload_n 0, 1) := by decide +kernel
theorem dX5_tell_74 : decode cX5_tell 74 = .ok (.iconst 1, 1) := by decide +kernel
theorem dX5_tell_75 : decode cX5_tell 75 = .ok (.invokevirtual 193, 3) := by decide +kernel
theorem dX5_tell_78 : decode cX5_tell 78 = .ok (.aload_n 0, 1) := by decide +kernel
theorem dX5_tell_79 : decode cX5_tell 79 = .ok (.iconst 1, 1) := by decide +kernel
theorem dX5_tell_80 : decode cX5_tell 80 = .ok (.invokevirtual 193, 3) := by decide +kernel
theorem dX5_tell_83 : decode cX5_tell 83 = .ok (.iconst 2, 1) := by decide +kernel
theorem dX5_tell_84 : decode cX5_tell 84 = .ok (.iload_n 2, 1) := by decide +kernel
theorem dX5_tell_85 : decode cX5_tell 85 = .ok (.imul, 1) := by decide +kernel
theorem dX5_tell_86 : decode cX5_tell 86 = .ok (.bipush 100, 2) := by decide +kernel
theorem dX5_tell_88 : decode cX5_tell 88 = .ok (.iadd, 1) := by decide +kernel
theorem dX5_tell_89 : decode cX5_tell 89 = .ok (.ireturn, 1) := by decide +kernel
theorem dX5_tell_90 : decode cX5_tell 90 = .ok (.aload_n 0, 1) := by decide +kernel
theorem dX5_tell_91 : decode cX5_tell 91 = .ok (.iconst 1, 1) := by decide +kernel
theorem dX5_tell_92 : decode cX5_tell 92 = .ok (.invokevirtual 193, 3) := by decide +kernel
theorem dX5_tell_95 : decode cX5_tell 95 = .ok (.iload_n 2, 1) := by decide +kernel
theorem dX5_tell_96 : decode cX5_tell 96 = .ok (.ireturn, 1) := by decide +kernel
set_option maxRecDepth 20000 in
theorem ggX5_cap_X5_isPupil : GoodIn wsX5_cap wsX5_isPupil := goodIn_r _ [6, 7, 13, 14, 15, 16, 17, 18, 19, 20, 21, 22, 23, 24, 25, 26, 27, 28, 29, 30, 31, 32, 33, 34, 35, 36, 37, 38, 39] (by decide +kernel) (by decide +kernel)
set_option maxRecDepth 20000 in
theorem gX5_cap_X5_isPupil : GoodIn wsX5_cap (wsV RX5 130 RX5 yX5_isPupil wsX5_isPupil) := goodIn_app (goodIn_of _ (by decide +kernel)) ggX5_cap_X5_isPupil
set_option maxRecDepth 20000 in
theorem ggX5_cap_X5_begins : GoodIn wsX5_cap wsX5_begins := goodIn_r _ [11, 12, 13, 14, 15, 16, 17, 18, 19, 20, 21, 22, 23, 24, 25, 26, 27, 28, 29, 30, 31, 32, 33, 34, 35, 36, 37, 38, 39] (by decide +kernel) (by decide +kernel)
set_option maxRecDepth 20000 in
theorem gX5_cap_X5_begins : GoodIn wsX5_cap (wsV RX5 193 RX5 yX5_begins wsX5_begins) := goodIn_app (goodIn_of _ (by decide +kernel)) ggX5_cap_X5_begins
theorem dX5_cap_0 : decode cX5_cap 0 = .ok (.aload_n 0, 1) := by decide +kernel
theorem dX5_cap_1 : decode cX5_cap 1 = .ok (.iload_n 1, 1) := by decide +kernel
theorem dX5_cap_2 : decode cX5_cap 2 = .ok (.invokevirtual 130, 3) := by decide +kernel
theorem dX5_cap_5 : decode cX5_cap 5 = .ok (.ifCond .ne 5, 3) := by decide +kernel
theorem dX5_cap_8 : decode cX5_cap 8 = .ok (.iconst (-1), 1) := by decide +kernel
theorem dX5_cap_9 : decode cX5_cap 9 = .ok (.ireturn, 1) := by decide +kernel
theorem dX5_cap_10 : decode cX5_cap 10 = .ok (.aload_n 0, 1) := by decide +kernel
theorem dX5_cap_11 : decode cX5_cap 11 = .ok (.aload_n 0, 1) := by decide +kernel
theorem dX5_cap_12 : decode cX5_cap 12 = .ok (.getfield 22, 3) := by decide +kernel
theorem dX5_cap_15 : decode cX5_cap 15 = .ok (.iload_n 1, 1) := by decide +kernel
theorem dX5_cap_16 : decode cX5_cap 16 = .ok (.iaload, 1) := by decide +kernel
theorem dX5_cap_17 : decode cX5_cap 17 = .ok (.iconst 2, 1) := by decide +kernel
theorem dX5_cap_18 : decode cX5_cap 18 = .ok (.if_icmp .ne 7, 3) := by decide +kernel
theorem dX5_cap_21 : decode cX5_cap 21 = .ok (.iconst 5, 1) := by decide +kernel
theorem dX5_cap_22 : decode cX5_cap 22 = .ok (.goto 4, 3) := by decide +kernel
theorem dX5_cap_25 : decode cX5_cap 25 = .ok (.iconst 4, 1) := by decide +kernel
theorem dX5_cap_26 : decode cX5_cap 26 = .ok (.invokevirtual 193, 3) := by decide +kernel
theorem dX5_cap_29 : decode cX5_cap 29 = .ok (.aload_n 0, 1) := by decide +kernel
theorem dX5_cap_30 : decode cX5_cap 30 = .ok (.getfield 22, 3) := by decide +kernel
theorem dX5_cap_33 : decode cX5_cap 33 = .ok (.iload_n 1, 1) := by decide +kernel
theorem dX5_cap_34 : decode cX5_cap 34 = .ok (.iaload, 1) := by decide +kernel
theorem dX5_cap_35 : decode cX5_cap 35 = .ok (.iconst 2, 1) := by decide +kernel
theorem dX5_cap_36 : decode cX5_cap 36 = .ok (.if_icmp .ne 8, 3) := by decide +kernel
theorem dX5_cap_39 : decode cX5_cap 39 = .ok (.bipush 70, 2) := by decide +kernel
theorem dX5_cap_41 : decode cX5_cap 41 = .ok (.goto 4, 3) := by decide +kernel
theorem dX5_cap_44 : decode cX5_cap 44 = .ok (.iload_n 1, 1) := by decide +kernel
theorem dX5_cap_45 : decode cX5_cap 45 = .ok (.ireturn, 1) := by decide +kernel
set_option maxRecDepth 20000 in
theorem ggX5_as_X5_isPupil : GoodIn wsX5_as wsX5_isPupil := goodIn_r _ [7, 8, 16, 17, 18, 19, 20, 21, 22, 23, 24, 25, 26, 27, 28, 29, 30, 31, 32, 33, 34, 35, 36, 37, 38, 39, 40, 41, 42] (by decide +kernel) (by decide +kernel)
set_option maxRecDepth 20000 in
theorem gX5_as_X5_isPupil : GoodIn wsX5_as (wsV RX5 130 RX5 yX5_isPupil wsX5_isPupil) := goodIn_app (goodIn_of _ (by decide +kernel)) ggX5_as_X5_isPupil
set_option maxRecDepth 20000 in
theorem ggX5_as_X5_within : GoodIn wsX5_as wsX5_within := goodIn_r _ [11] (by decide +kernel) (by decide +kernel)
set_option maxRecDepth 20000 in
theorem gX5_as_X5_within : GoodIn wsX5_as (va_wsS RX5 61 yX5_within wsX5_within) := goodIn_app (goodIn_of _ (by decide +kernel)) ggX5_as_X5_within
set_option maxRecDepth 20000 in
theorem ggX5_as_X5_fails : GoodIn wsX5_as wsX5_fails := goodIn_r _ [15, 1, 16, 17, 18, 19, 20, 21, 22, 23, 24, 25, 26, 27, 28, 29, 30, 31, 32, 33, 34, 35, 36, 37, 38, 39, 40, 41, 42] (by decide +kernel) (by decide +kernel)
set_option maxRecDepth 20000 in
theorem gX5_as_X5_fails : GoodIn wsX5_as (wsV RX5 85 RX5 yX5_fails wsX5_fails) := goodIn_app (goodIn_of _ (by decide +kernel)) ggX5_as_X5_fails
theorem dX5_as_0 : decode cX5_as 0 = .ok (.aload_n 0, 1) := by decide +kernel
theorem dX5_as_1 : decode cX5_as 1 = .ok (.iconst 0, 1) := by decide +kernel
theorem dX5_as_2 : decode cX5_as 2 = .ok (.putfield 55, 3) := by decide +kernel
theorem dX5_as_5 : decode cX5_as 5 = .ok (.aload_n 0, 1) := by decide +kernel
theorem dX5_as_6 : decode cX5_as 6 = .ok (.iload_n 1, 1) := by decide +kernel
theorem dX5_as_7 : decode cX5_as 7 = .ok (.invokevirtual 130, 3) := by decide +kernel
theorem dX5_as_10 : decode cX5_as 10 = .ok (.ifCond .ne 5, 3) := by decide +kernel
theorem dX5_as_13 : decode cX5_as 13 = .ok (.iconst (-1), 1) := by decide +kernel
theorem dX5_as_14 : decode cX5_as 14 = .ok (.ireturn, 1) := by decide +kernel
theorem dX5_as_15 : decode cX5_as 15 = .ok (.iload_n 2, 1) := by decide +kernel
theorem dX5_as_16 : decode cX5_as 16 = .ok (.iconst 0, 1) := by decide +kernel
theorem dX5_as_17 : decode cX5_as 17 = .ok (.iconst 2, 1) := by decide +kernel
theorem dX5_as_18 : decode cX5_as 18 = .ok (.invokestatic 61, 3) := by decide +kernel
theorem dX5_as_21 : decode cX5_as 21 = .ok (.ifCond .ne 6, 3) := by decide +kernel
theorem dX5_as_24 : decode cX5_as 24 = .ok (.bipush (-2), 2) := by decide +kernel
theorem dX5_as_26 : decode cX5_as 26 = .ok (.ireturn, 1) := by decide +kernel
theorem dX5_as_27 : decode cX5_as 27 = .ok (.aload_n 0, 1) := by decide +kernel
theorem dX5_as_28 : decode cX5_as 28 = .ok (.getfield 22, 3) := by decide +kernel
theorem dX5_as_31 : decode cX5_as 31 = .ok (.iload_n 1, 1) := by decide +kernel
theorem dX5_as_32 : decode cX5_as 32 = .ok (.iaload, 1) := by decide +kernel
theorem dX5_as_33 : decode cX5_as 33 = .ok (.iload_n 2, 1) := by decide +kernel
theorem dX5_as_34 : decode cX5_as 34 = .ok (.if_icmp .lt 7, 3) := by decide +kernel
theorem dX5_as_37 : decode cX5_as 37 = .ok (.iconst 1, 1) := by decide +kernel
theorem dX5_as_38 : decode cX5_as 38 = .ok (.goto 8, 3) := by decide +kernel
theorem dX5_as_41 : decode cX5_as 41 = .ok (.aload_n 0, 1) := by decide +kernel
theorem dX5_as_42 : decode cX5_as 42 = .ok (.iconst 2, 1) := by decide +kernel
theorem dX5_as_43 : decode cX5_as 43 = .ok (.invokevirtual 85, 3) := by decide +kernel
theorem dX5_as_46 : decode cX5_as 46 = .ok (.ireturn, 1) := by decide +kernel
theorem dX5_trace_0 : decode cX5_trace 0 = .ok (.aload_n 0, 1) := by decide +kernel
theorem dX5_trace_1 : decode cX5_trace 1 = .ok (.getfield 190, 3) := by decide +kernel
theorem dX5_trace_4 : decode cX5_trace 4 = .ok (.ireturn, 1) := by decide +kernel
theorem dX5_fault_0 : decode cX5_fault 0 = .ok (.aload_n 0, 1) := by decide +kernel
theorem dX5_fault_1 : decode cX5_fault 1 = .ok (.getfield 55, 3) := by decide +kernel
theorem dX5_fault_4 : decode cX5_fault 4 = .ok (.ireturn, 1) := by decide +kernel
theorem dX5_many_0 : decode cX5_many 0 = .ok (.iload_n 1, 1) := by decide +kernel
theorem dX5_many_1 : decode cX5_many 1 = .ok (.tableswitch 60 0 4 #[35, 40, 45, 50, 55], 35) := by decide +kernel
theorem dX5_many_36 : decode cX5_many 36 = .ok (.aload_n 0, 1) := by decide +kernel
theorem dX5_many_37 : decode cX5_many 37 = .ok (.getfield 65, 3) := by decide +kernel
theorem dX5_many_40 : decode cX5_many 40 = .ok (.ireturn, 1) := by decide +kernel
theorem dX5_many_41 : decode cX5_many 41 = .ok (.aload_n 0, 1) := by decide +kernel
theorem dX5_many_42 : decode cX5_many 42 = .ok (.getfield 68, 3) := by decide +kernel
theorem dX5_many_45 : decode cX5_many 45 = .ok (.ireturn, 1) := by decide +kernel
theorem dX5_many_46 : decode cX5_many 46 = .ok (.aload_n 0, 1) := by decide +kernel
theorem dX5_many_47 : decode cX5_many 47 = .ok (.getfield 98, 3) := by decide +kernel
theorem dX5_many_50 : decode cX5_many 50 = .ok (.ireturn, 1) := by decide +kernel
theorem dX5_many_51 : decode cX5_many 51 = .ok (.aload_n 0, 1) := by decide +kernel
theorem dX5_many_52 : decode cX5_many 52 = .ok (.getfield 104, 3) := by decide +kernel
theorem dX5_many_55 : decode cX5_many 55 = .ok (.ireturn, 1) := by decide +kernel
theorem dX5_many_56 : decode cX5_many 56 = .ok (.aload_n 0, 1) := by decide +kernel
theorem dX5_many_57 : decode cX5_many 57 = .ok (.getfield 113, 3) := by decide +kernel
theorem dX5_many_60 : decode cX5_many 60 = .ok (.ireturn, 1) := by decide +kernel
theorem dX5_many_61 : decode cX5_many 61 = .ok (.bipush (-2), 2) := by decide +kernel
theorem dX5_many_63 : decode cX5_many 63 = .ok (.ireturn, 1) := by decide +kernel

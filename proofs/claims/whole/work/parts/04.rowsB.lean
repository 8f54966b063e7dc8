theorem dX5_init_0 : decode cX5_init 0 = .ok (.aload_n 0, 1) := by decide +kernel
theorem dX5_init_1 : decode cX5_init 1 = .ok (.invokespecial 1, 3) := by decide +kernel
theorem dX5_init_4 : decode cX5_init 4 = .ok (.aload_n 0, 1) := by decide +kernel
theorem dX5_init_5 : decode cX5_init 5 = .ok (.iconst 4, 1) := by decide +kernel
theorem dX5_init_6 : decode cX5_init 6 = .ok (.newarray .int, 2) := by decide +kernel
theorem dX5_init_8 : decode cX5_init 8 = .ok (.dup, 1) := by decide +kernel
theorem dX5_init_9 : decode cX5_init 9 = .ok (.iconst 0, 1) := by decide +kernel
theorem dX5_init_10 : decode cX5_init 10 = .ok (.bipush (-9), 2) := by decide +kernel
theorem dX5_init_12 : decode cX5_init 12 = .ok (.iastore, 1) := by decide +kernel
theorem dX5_init_13 : decode cX5_init 13 = .ok (.dup, 1) := by decide +kernel
theorem dX5_init_14 : decode cX5_init 14 = .ok (.iconst 1, 1) := by decide +kernel
theorem dX5_init_15 : decode cX5_init 15 = .ok (.bipush (-9), 2) := by decide +kernel
theorem dX5_init_17 : decode cX5_init 17 = .ok (.iastore, 1) := by decide +kernel
theorem dX5_init_18 : decode cX5_init 18 = .ok (.dup, 1) := by decide +kernel
theorem dX5_init_19 : decode cX5_init 19 = .ok (.iconst 2, 1) := by decide +kernel
theorem dX5_init_20 : decode cX5_init 20 = .ok (.bipush (-9), 2) := by decide +kernel
theorem dX5_init_22 : decode cX5_init 22 = .ok (.iastore, 1) := by decide +kernel
theorem dX5_init_23 : decode cX5_init 23 = .ok (.dup, 1) := by decide +kernel
theorem dX5_init_24 : decode cX5_init 24 = .ok (.iconst 3, 1) := by decide +kernel
theorem dX5_init_25 : decode cX5_init 25 = .ok (.bipush (-9), 2) := by decide +kernel
theorem dX5_init_27 : decode cX5_init 27 = .ok (.iastore, 1) := by decide +kernel
theorem dX5_init_28 : decode cX5_init 28 = .ok (.putfield 9, 3) := by decide +kernel
theorem dX5_init_31 : decode cX5_init 31 = .ok (.aload_n 0, 1) := by decide +kernel
theorem dX5_init_32 : decode cX5_init 32 = .ok (.iconst 4, 1) := by decide +kernel
theorem dX5_init_33 : decode cX5_init 33 = .ok (.newarray .int, 2) := by decide +kernel
theorem dX5_init_35 : decode cX5_init 35 = .ok (.putfield 13, 3) := by decide +kernel
theorem dX5_init_38 : decode cX5_init 38 = .ok (.aload_n 0, 1) := by decide +kernel
theorem dX5_init_39 : decode cX5_init 39 = .ok (.sipush 240, 3) := by decide +kernel
theorem dX5_init_42 : decode cX5_init 42 = .ok (.newarray .int, 2) := by decide +kernel
theorem dX5_init_44 : decode cX5_init 44 = .ok (.putfield 16, 3) := by decide +kernel
theorem dX5_init_47 : decode cX5_init 47 = .ok (.aload_n 0, 1) := by decide +kernel
theorem dX5_init_48 : decode cX5_init 48 = .ok (.bipush 6, 2) := by decide +kernel
theorem dX5_init_50 : decode cX5_init 50 = .ok (.newarray .int, 2) := by decide +kernel
theorem dX5_init_52 : decode cX5_init 52 = .ok (.putfield 19, 3) := by decide +kernel
theorem dX5_init_55 : decode cX5_init 55 = .ok (.aload_n 0, 1) := by decide +kernel
theorem dX5_init_56 : decode cX5_init 56 = .ok (.bipush 6, 2) := by decide +kernel
theorem dX5_init_58 : decode cX5_init 58 = .ok (.newarray .int, 2) := by decide +kernel
theorem dX5_init_60 : decode cX5_init 60 = .ok (.putfield 22, 3) := by decide +kernel
theorem dX5_init_63 : decode cX5_init 63 = .ok (.aload_n 0, 1) := by decide +kernel
theorem dX5_init_64 : decode cX5_init 64 = .ok (.bipush 12, 2) := by decide +kernel
theorem dX5_init_66 : decode cX5_init 66 = .ok (.newarray .int, 2) := by decide +kernel
theorem dX5_init_68 : decode cX5_init 68 = .ok (.putfield 25, 3) := by decide +kernel
theorem dX5_init_71 : decode cX5_init 71 = .ok (.aload_n 0, 1) := by decide +kernel
theorem dX5_init_72 : decode cX5_init 72 = .ok (.bipush 12, 2) := by decide +kernel
theorem dX5_init_74 : decode cX5_init 74 = .ok (.newarray .int, 2) := by decide +kernel
theorem dX5_init_76 : decode cX5_init 76 = .ok (.putfield 28, 3) := by decide +kernel
theorem dX5_init_79 : decode cX5_init 79 = .ok (.aload_n 0, 1) := by decide +kernel
theorem dX5_init_80 : decode cX5_init 80 = .ok (.bipush 6, 2) := by decide +kernel
theorem dX5_init_82 : decode cX5_init 82 = .ok (.newarray .int, 2) := by decide +kernel
theorem dX5_init_84 : decode cX5_init 84 = .ok (.putfield 31, 3) := by decide +kernel
theorem dX5_init_87 : decode cX5_init 87 = .ok (.aload_n 0, 1) := by decide +kernel
theorem dX5_init_88 : decode cX5_init 88 = .ok (.bipush 6, 2) := by decide +kernel
theorem dX5_init_90 : decode cX5_init 90 = .ok (.newarray .int, 2) := by decide +kernel
theorem dX5_init_92 : decode cX5_init 92 = .ok (.putfield 34, 3) := by decide +kernel
theorem dX5_init_95 : decode cX5_init 95 = .ok (.aload_n 0, 1) := by decide +kernel
theorem dX5_init_96 : decode cX5_init 96 = .ok (.bipush 12, 2) := by decide +kernel
theorem dX5_init_98 : decode cX5_init 98 = .ok (.newarray .int, 2) := by decide +kernel
theorem dX5_init_100 : decode cX5_init 100 = .ok (.putfield 37, 3) := by decide +kernel
theorem dX5_init_103 : decode cX5_init 103 = .ok (.aload_n 0, 1) := by decide +kernel
theorem dX5_init_104 : decode cX5_init 104 = .ok (.bipush 12, 2) := by decide +kernel
theorem dX5_init_106 : decode cX5_init 106 = .ok (.newarray .int, 2) := by decide +kernel
theorem dX5_init_108 : decode cX5_init 108 = .ok (.putfield 40, 3) := by decide +kernel
theorem dX5_init_111 : decode cX5_init 111 = .ok (.aload_n 0, 1) := by decide +kernel
theorem dX5_init_112 : decode cX5_init 112 = .ok (.bipush 31, 2) := by decide +kernel
theorem dX5_init_114 : decode cX5_init 114 = .ok (.newarray .int, 2) := by decide +kernel
theorem dX5_init_116 : decode cX5_init 116 = .ok (.putfield 43, 3) := by decide +kernel
theorem dX5_init_119 : decode cX5_init 119 = .ok (.aload_n 0, 1) := by decide +kernel
theorem dX5_init_120 : decode cX5_init 120 = .ok (.bipush 7, 2) := by decide +kernel
theorem dX5_init_122 : decode cX5_init 122 = .ok (.newarray .int, 2) := by decide +kernel
theorem dX5_init_124 : decode cX5_init 124 = .ok (.putfield 46, 3) := by decide +kernel
theorem dX5_init_127 : decode cX5_init 127 = .ok (.aload_n 0, 1) := by decide +kernel
theorem dX5_init_128 : decode cX5_init 128 = .ok (.bipush 8, 2) := by decide +kernel
theorem dX5_init_130 : decode cX5_init 130 = .ok (.newarray .int, 2) := by decide +kernel
theorem dX5_init_132 : decode cX5_init 132 = .ok (.putfield 49, 3) := by decide +kernel
theorem dX5_init_135 : decode cX5_init 135 = .ok (.aload_n 0, 1) := by decide +kernel
theorem dX5_init_136 : decode cX5_init 136 = .ok (.bipush 8, 2) := by decide +kernel
theorem dX5_init_138 : decode cX5_init 138 = .ok (.newarray .int, 2) := by decide +kernel
theorem dX5_init_140 : decode cX5_init 140 = .ok (.putfield 52, 3) := by decide +kernel
theorem dX5_init_143 : decode cX5_init 143 = .ok (.aload_n 0, 1) := by decide +kernel
theorem dX5_init_144 : decode cX5_init 144 = .ok (.bipush 8, 2) := by decide +kernel
theorem dX5_init_146 : decode cX5_init 146 = .ok (.newarray .int, 2) := by decide +kernel
theorem dX5_init_148 : decode cX5_init 148 = .ok (.putfield 55, 3) := by decide +kernel
theorem dX5_init_151 : decode cX5_init 151 = .ok (.return_, 1) := by decide +kernel
theorem dX5_fails_0 : decode cX5_fails 0 = .ok (.aload_n 0, 1) := by decide +kernel
theorem dX5_fails_1 : decode cX5_fails 1 = .ok (.iload_n 1, 1) := by decide +kernel
theorem dX5_fails_2 : decode cX5_fails 2 = .ok (.putfield 58, 3) := by decide +kernel
theorem dX5_fails_5 : decode cX5_fails 5 = .ok (.bipush (-10), 2) := by decide +kernel
theorem dX5_fails_7 : decode cX5_fails 7 = .ok (.iload_n 1, 1) := by decide +kernel
theorem dX5_fails_8 : decode cX5_fails 8 = .ok (.isub, 1) := by decide +kernel
theorem dX5_fails_9 : decode cX5_fails 9 = .ok (.ireturn, 1) := by decide +kernel
theorem dX5_lost_0 : decode cX5_lost 0 = .ok (.aload_n 0, 1) := by decide +kernel
theorem dX5_lost_1 : decode cX5_lost 1 = .ok (.iload_n 1, 1) := by decide +kernel
theorem dX5_lost_2 : decode cX5_lost 2 = .ok (.putfield 58, 3) := by decide +kernel
theorem dX5_lost_5 : decode cX5_lost 5 = .ok (.ldc2_w 62, 3) := by decide +kernel
theorem dX5_lost_8 : decode cX5_lost 8 = .ok (.lreturn, 1) := by decide +kernel
theorem dX5_within_0 : decode cX5_within 0 = .ok (.iload_n 0, 1) := by decide +kernel
theorem dX5_within_1 : decode cX5_within 1 = .ok (.iload_n 1, 1) := by decide +kernel
theorem dX5_within_2 : decode cX5_within 2 = .ok (.if_icmp .lt 12, 3) := by decide +kernel
theorem dX5_within_5 : decode cX5_within 5 = .ok (.iload_n 0, 1) := by decide +kernel
theorem dX5_within_6 : decode cX5_within 6 = .ok (.iload_n 2, 1) := by decide +kernel
theorem dX5_within_7 : decode cX5_within 7 = .ok (.if_icmp .gt 7, 3) := by decide +kernel
theorem dX5_within_10 : decode cX5_within 10 = .ok (.iconst 1, 1) := by decide +kernel
theorem dX5_within_11 : decode cX5_within 11 = .ok (.goto 4, 3) := by decide +kernel
theorem dX5_within_14 : decode cX5_within 14 = .ok (.iconst 0, 1) := by decide +kernel
theorem dX5_within_15 : decode cX5_within 15 = .ok (.ireturn, 1) := by decide +kernel
set_option maxRecDepth 20000 in
theorem ggX5_isSheet_X5_within : GoodIn wsX5_isSheet wsX5_within := goodIn_r _ [4] (by decide +kernel) (by decide +kernel)
set_option maxRecDepth 20000 in
theorem gX5_isSheet_X5_within : GoodIn wsX5_isSheet (va_wsS RX5 64 yX5_within wsX5_within) := goodIn_app (goodIn_of _ (by decide +kernel)) ggX5_isSheet_X5_within
theorem dX5_isSheet_0 : decode cX5_isSheet 0 = .ok (.iload_n 0, 1) := by decide +kernel
theorem dX5_isSheet_1 : decode cX5_isSheet 1 = .ok (.iconst 0, 1) := by decide +kernel
theorem dX5_isSheet_2 : decode cX5_isSheet 2 = .ok (.iconst 3, 1) := by decide +kernel
theorem dX5_isSheet_3 : decode cX5_isSheet 3 = .ok (.invokestatic 64, 3) := by decide +kernel
theorem dX5_isSheet_6 : decode cX5_isSheet 6 = .ok (.ireturn, 1) := by decide +kernel
set_option maxRecDepth 20000 in
theorem ggX5_isSort_X5_within : GoodIn wsX5_isSort wsX5_within := goodIn_r _ [4] (by decide +kernel) (by decide +kernel)
set_option maxRecDepth 20000 in
theorem gX5_isSort_X5_within : GoodIn wsX5_isSort (va_wsS RX5 64 yX5_within wsX5_within) := goodIn_app (goodIn_of _ (by decide +kernel)) ggX5_isSort_X5_within
theorem dX5_isSort_0 : decode cX5_isSort 0 = .ok (.iload_n 0, 1) := by decide +kernel
theorem dX5_isSort_1 : decode cX5_isSort 1 = .ok (.iconst 0, 1) := by decide +kernel
theorem dX5_isSort_2 : decode cX5_isSort 2 = .ok (.iconst 2, 1) := by decide +kernel
theorem dX5_isSort_3 : decode cX5_isSort 3 = .ok (.invokestatic 64, 3) := by decide +kernel
theorem dX5_isSort_6 : decode cX5_isSort 6 = .ok (.ireturn, 1) := by decide +kernel
theorem dX5_against_0 : decode cX5_against 0 = .ok (.aload_n 0, 1) := by decide +kernel
theorem dX5_against_1 : decode cX5_against 1 = .ok (.getfield 9, 3) := by decide +kernel
theorem dX5_against_4 : decode cX5_against 4 = .ok (.iload_n 1, 1) := by decide +kernel
theorem dX5_against_5 : decode cX5_against 5 = .ok (.iaload, 1) := by decide +kernel
theorem dX5_against_6 : decode cX5_against 6 = .ok (.bipush (-9), 2) := by decide +kernel
theorem dX5_against_8 : decode cX5_against 8 = .ok (.if_icmp .eq 15, 3) := by decide +kernel
theorem dX5_against_11 : decode cX5_against 11 = .ok (.aload_n 0, 1) := by decide +kernel
theorem dX5_against_12 : decode cX5_against 12 = .ok (.getfield 9, 3) := by decide +kernel
theorem dX5_against_15 : decode cX5_against 15 = .ok (.iload_n 1, 1) := by decide +kernel
theorem dX5_against_16 : decode cX5_against 16 = .ok (.iaload, 1) := by decide +kernel
theorem dX5_against_17 : decode cX5_against 17 = .ok (.iload_n 2, 1) := by decide +kernel
theorem dX5_against_18 : decode cX5_against 18 = .ok (.if_icmp .eq 5, 3) := by decide +kernel
theorem dX5_against_21 : decode cX5_against 21 = .ok (.iconst 2, 1) := by decide +kernel
theorem dX5_against_22 : decode cX5_against 22 = .ok (.ireturn, 1) := by decide +kernel
theorem dX5_against_23 : decode cX5_against 23 = .ok (.aload_n 0, 1) := by decide +kernel
theorem dX5_against_24 : decode cX5_against 24 = .ok (.getfield 9, 3) := by decide +kernel
theorem dX5_against_27 : decode cX5_against 27 = .ok (.iload_n 1, 1) := by decide +kernel
theorem dX5_against_28 : decode cX5_against 28 = .ok (.iaload, 1) := by decide +kernel
theorem dX5_against_29 : decode cX5_against 29 = .ok (.bipush (-9), 2) := by decide +kernel
theorem dX5_against_31 : decode cX5_against 31 = .ok (.if_icmp .ne 5, 3) := by decide +kernel
theorem dX5_against_34 : decode cX5_against 34 = .ok (.iconst 1, 1) := by decide +kernel
theorem dX5_against_35 : decode cX5_against 35 = .ok (.ireturn, 1) := by decide +kernel
theorem dX5_against_36 : decode cX5_against 36 = .ok (.iload 4, 2) := by decide +kernel
theorem dX5_against_38 : decode cX5_against 38 = .ok (.ifCond .ge 5, 3) := by decide +kernel
theorem dX5_against_41 : decode cX5_against 41 = .ok (.iconst 4, 1) := by decide +kernel
theorem dX5_against_42 : decode cX5_against 42 = .ok (.ireturn, 1) := by decide +kernel
theorem dX5_against_43 : decode cX5_against 43 = .ok (.iload_n 3, 1) := by decide +kernel
theorem dX5_against_44 : decode cX5_against 44 = .ok (.ifCond .lt 26, 3) := by decide +kernel
theorem dX5_against_47 : decode cX5_against 47 = .ok (.iload_n 3, 1) := by decide +kernel
theorem dX5_against_48 : decode cX5_against 48 = .ok (.aload_n 0, 1) := by decide +kernel
theorem dX5_against_49 : decode cX5_against 49 = .ok (.getfield 13, 3) := by decide +kernel
theorem dX5_against_52 : decode cX5_against 52 = .ok (.iload_n 1, 1) := by decide +kernel
theorem dX5_against_53 : decode cX5_against 53 = .ok (.iaload, 1) := by decide +kernel
theorem dX5_against_54 : decode cX5_against 54 = .ok (.if_icmp .gt 16, 3) := by decide +kernel
theorem dX5_against_57 : decode cX5_against 57 = .ok (.iload 4, 2) := by decide +kernel
theorem dX5_against_59 : decode cX5_against 59 = .ok (.aload_n 0, 1) := by decide +kernel
theorem dX5_against_60 : decode cX5_against 60 = .ok (.getfield 13, 3) := by decide +kernel
theorem dX5_against_63 : decode cX5_against 63 = .ok (.iload_n 1, 1) := by decide +kernel
theorem dX5_against_64 : decode cX5_against 64 = .ok (.iaload, 1) := by decide +kernel
theorem dX5_against_65 : decode cX5_against 65 = .ok (.iload_n 3, 1) := by decide +kernel
theorem dX5_against_66 : decode cX5_against 66 = .ok (.isub, 1) := by decide +kernel
theorem dX5_against_67 : decode cX5_against 67 = .ok (.if_icmp .le 7, 3) := by decide +kernel
theorem dX5_against_70 : decode cX5_against 70 = .ok (.iconst 3, 1) := by decide +kernel
theorem dX5_against_71 : decode cX5_against 71 = .ok (.goto 4, 3) := by decide +kernel
theorem dX5_against_74 : decode cX5_against 74 = .ok (.iconst 0, 1) := by decide +kernel
theorem dX5_against_75 : decode cX5_against 75 = .ok (.ireturn, 1) := by decide +kernel
theorem dX5_isThing_0 : decode cX5_isThing 0 = .ok (.iload_n 1, 1) := by decide +kernel
theorem dX5_isThing_1 : decode cX5_isThing 1 = .ok (.ifCond .lt 15, 3) := by decide +kernel
theorem dX5_isThing_4 : decode cX5_isThing 4 = .ok (.iload_n 1, 1) := by decide +kernel
theorem dX5_isThing_5 : decode cX5_isThing 5 = .ok (.aload_n 0, 1) := by decide +kernel
theorem dX5_isThing_6 : decode cX5_isThing 6 = .ok (.getfield 68, 3) := by decide +kernel
theorem dX5_isThing_9 : decode cX5_isThing 9 = .ok (.if_icmp .ge 7, 3) := by decide +kernel
theorem dX5_isThing_12 : decode cX5_isThing 12 = .ok (.iconst 1, 1) := by decide +kernel
theorem dX5_isThing_13 : decode cX5_isThing 13 = .ok (.goto 4, 3) := by decide +kernel
theorem dX5_isThing_16 : decode cX5_isThing 16 = .ok (.iconst 0, 1) := by decide +kernel
theorem dX5_isThing_17 : decode cX5_isThing 17 = .ok (.ireturn, 1) := by decide +kernel
set_option maxRecDepth 20000 in
theorem ggX5_isWho_X5_isThing : GoodIn wsX5_isWho wsX5_isThing := goodIn_r _ [6, 1, 7, 8, 9, 10, 11, 12, 13, 14, 15, 16, 17, 18, 19, 20, 21, 22, 23, 24, 25, 26, 27, 28, 29, 30] (by decide +kernel) (by decide +kernel)
set_option maxRecDepth 20000 in
theorem gX5_isWho_X5_isThing : GoodIn wsX5_isWho (wsV RX5 71 RX5 yX5_isThing wsX5_isThing) := goodIn_app (goodIn_of _ (by decide +kernel)) ggX5_isWho_X5_isThing
theorem dX5_isWho_0 : decode cX5_isWho 0 = .ok (.aload_n 0, 1) := by decide +kernel
theorem dX5_isWho_1 : decode cX5_isWho 1 = .ok (.iload_n 1, 1) := by decide +kernel
theorem dX5_isWho_2 : decode cX5_isWho 2 = .ok (.invokevirtual 71, 3) := by decide +kernel
theorem dX5_isWho_5 : decode cX5_isWho 5 = .ok (.ifCond .ne 16, 3) := by decide +kernel
theorem dX5_isWho_8 : decode cX5_isWho 8 = .ok (.iload_n 1, 1) := by decide +kernel
theorem dX5_isWho_9 : decode cX5_isWho 9 = .ok (.bipush 6, 2) := by decide +kernel
theorem dX5_isWho_11 : decode cX5_isWho 11 = .ok (.if_icmp .ne 14, 3) := by decide +kernel
theorem dX5_isWho_14 : decode cX5_isWho 14 = .ok (.aload_n 0, 1) := by decide +kernel
theorem dX5_isWho_15 : decode cX5_isWho 15 = .ok (.getfield 68, 3) := by decide +kernel
theorem dX5_isWho_18 : decode cX5_isWho 18 = .ok (.ifCond .le 7, 3) := by decide +kernel
theorem dX5_isWho_21 : decode cX5_isWho 21 = .ok (.iconst 1, 1) := by decide +kernel
theorem dX5_isWho_22 : decode cX5_isWho 22 = .ok (.goto 4, 3) := by decide +kernel
theorem dX5_isWho_25 : decode cX5_isWho 25 = .ok (.iconst 0, 1) := by decide +kernel
theorem dX5_isWho_26 : decode cX5_isWho 26 = .ok (.ireturn, 1) := by decide +kernel
theorem dX5_isOf_0 : decode cX5_isOf 0 = .ok (.iload_n 0, 1) := by decide +kernel
theorem dX5_isOf_1 : decode cX5_isOf 1 = .ok (.iload_n 1, 1) := by decide +kernel
theorem dX5_isOf_2 : decode cX5_isOf 2 = .ok (.ishr, 1) := by decide +kernel
theorem dX5_isOf_3 : decode cX5_isOf 3 = .ok (.iconst 1, 1) := by decide +kernel
theorem dX5_isOf_4 : decode cX5_isOf 4 = .ok (.iand, 1) := by decide +kernel
theorem dX5_isOf_5 : decode cX5_isOf 5 = .ok (.iconst 1, 1) := by decide +kernel
theorem dX5_isOf_6 : decode cX5_isOf 6 = .ok (.if_icmp .ne 7, 3) := by decide +kernel
theorem dX5_isOf_9 : decode cX5_isOf 9 = .ok (.iconst 1, 1) := by decide +kernel
theorem dX5_isOf_10 : decode cX5_isOf 10 = .ok (.goto 4, 3) := by decide +kernel
theorem dX5_isOf_13 : decode cX5_isOf 13 = .ok (.iconst 0, 1) := by decide +kernel
theorem dX5_isOf_14 : decode cX5_isOf 14 = .ok (.ireturn, 1) := by decide +kernel
theorem dX5_size_0 : decode cX5_size 0 = .ok (.iconst 0, 1) := by decide +kernel
theorem dX5_size_1 : decode cX5_size 1 = .ok (.istore_n 1, 1) := by decide +kernel
theorem dX5_size_2 : decode cX5_size 2 = .ok (.iload_n 0, 1) := by decide +kernel
theorem dX5_size_3 : decode cX5_size 3 = .ok (.istore_n 2, 1) := by decide +kernel
theorem dX5_size_4 : decode cX5_size 4 = .ok (.iload_n 2, 1) := by decide +kernel
theorem dX5_size_5 : decode cX5_size 5 = .ok (.ifCond .le 16, 3) := by decide +kernel
theorem dX5_size_8 : decode cX5_size 8 = .ok (.iload_n 1, 1) := by decide +kernel
theorem dX5_size_9 : decode cX5_size 9 = .ok (.iload_n 2, 1) := by decide +kernel
theorem dX5_size_10 : decode cX5_size 10 = .ok (.iconst 1, 1) := by decide +kernel
theorem dX5_size_11 : decode cX5_size 11 = .ok (.iand, 1) := by decide +kernel
theorem dX5_size_12 : decode cX5_size 12 = .ok (.iadd, 1) := by decide +kernel
theorem dX5_size_13 : decode cX5_size 13 = .ok (.istore_n 1, 1) := by decide +kernel
theorem dX5_size_14 : decode cX5_size 14 = .ok (.iload_n 2, 1) := by decide +kernel
theorem dX5_size_15 : decode cX5_size 15 = .ok (.iconst 1, 1) := by decide +kernel
theorem dX5_size_16 : decode cX5_size 16 = .ok (.ishr, 1) := by decide +kernel
theorem dX5_size_17 : decode cX5_size 17 = .ok (.istore_n 2, 1) := by decide +kernel
theorem dX5_size_18 : decode cX5_size 18 = .ok (.goto (-14), 3) := by decide +kernel
theorem dX5_size_21 : decode cX5_size 21 = .ok (.iload_n 1, 1) := by decide +kernel
theorem dX5_size_22 : decode cX5_size 22 = .ok (.ireturn, 1) := by decide +kernel
set_option maxRecDepth 20000 in
theorem ggX5_digit_X5_within : GoodIn wsX5_digit wsX5_within := goodIn_r _ [6] (by decide +kernel) (by decide +kernel)
set_option maxRecDepth 20000 in
theorem gX5_digit_X5_within : GoodIn wsX5_digit (va_wsS RX5 64 yX5_within wsX5_within) := goodIn_app (goodIn_of _ (by decide +kernel)) ggX5_digit_X5_within
theorem dX5_digit_0 : decode cX5_digit 0 = .ok (.aload_n 0, 1) := by decide +kernel
theorem dX5_digit_1 : decode cX5_digit 1 = .ok (.getfield 75, 3) := by decide +kernel
theorem dX5_digit_4 : decode cX5_digit 4 = .ok (.iload_n 1, 1) := by decide +kernel
theorem dX5_digit_5 : decode cX5_digit 5 = .ok (.if_icmp .ge 24, 3) := by decide +kernel
theorem dX5_digit_8 : decode cX5_digit 8 = .ok (.aload_n 0, 1) := by decide +kernel
theorem dX5_digit_9 : decode cX5_digit 9 = .ok (.getfield 16, 3) := by decide +kernel
theorem dX5_digit_12 : decode cX5_digit 12 = .ok (.aload_n 0, 1) := by decide +kernel
theorem dX5_digit_13 : decode cX5_digit 13 = .ok (.getfield 75, 3) := by decide +kernel
theorem dX5_digit_16 : decode cX5_digit 16 = .ok (.iaload, 1) := by decide +kernel
theorem dX5_digit_17 : decode cX5_digit 17 = .ok (.bipush 48, 2) := by decide +kernel
theorem dX5_digit_19 : decode cX5_digit 19 = .ok (.bipush 48, 2) := by decide +kernel
theorem dX5_digit_21 : decode cX5_digit 21 = .ok (.iload_n 2, 1) := by decide +kernel
theorem dX5_digit_22 : decode cX5_digit 22 = .ok (.iadd, 1) := by decide +kernel
theorem dX5_digit_23 : decode cX5_digit 23 = .ok (.invokestatic 64, 3) := by decide +kernel
theorem dX5_digit_26 : decode cX5_digit 26 = .ok (.ifCond .ne 6, 3) := by decide +kernel
theorem dX5_digit_29 : decode cX5_digit 29 = .ok (.bipush (-9), 2) := by decide +kernel
theorem dX5_digit_31 : decode cX5_digit 31 = .ok (.ireturn, 1) := by decide +kernel
theorem dX5_digit_32 : decode cX5_digit 32 = .ok (.aload_n 0, 1) := by decide +kernel
theorem dX5_digit_33 : decode cX5_digit 33 = .ok (.dup, 1) := by decide +kernel
theorem dX5_digit_34 : decode cX5_digit 34 = .ok (.getfield 75, 3) := by decide +kernel
theorem dX5_digit_37 : decode cX5_digit 37 = .ok (.iconst 1, 1) := by decide +kernel
theorem dX5_digit_38 : decode cX5_digit 38 = .ok (.iadd, 1) := by decide +kernel
theorem dX5_digit_39 : decode cX5_digit 39 = .ok (.putfield 75, 3) := by decide +kernel
theorem dX5_digit_42 : decode cX5_digit 42 = .ok (.aload_n 0, 1) := by decide +kernel
theorem dX5_digit_43 : decode cX5_digit 43 = .ok (.getfield 16, 3) := by decide +kernel
theorem dX5_digit_46 : decode cX5_digit 46 = .ok (.aload_n 0, 1) := by decide +kernel
theorem dX5_digit_47 : decode cX5_digit 47 = .ok (.getfield 75, 3) := by decide +kernel
theorem dX5_digit_50 : decode cX5_digit 50 = .ok (.iconst 1, 1) := by decide +kernel
theorem dX5_digit_51 : decode cX5_digit 51 = .ok (.isub, 1) := by decide +kernel
theorem dX5_digit_52 : decode cX5_digit 52 = .ok (.iaload, 1) := by decide +kernel
theorem dX5_digit_53 : decode cX5_digit 53 = .ok (.bipush 48, 2) := by decide +kernel
theorem dX5_digit_55 : decode cX5_digit 55 = .ok (.isub, 1) := by decide +kernel
theorem dX5_digit_56 : decode cX5_digit 56 = .ok (.ireturn, 1) := by decide +kernel
theorem dX5_isSign_0 : decode cX5_isSign 0 = .ok (.aload_n 0, 1) := by decide +kernel
theorem dX5_isSign_1 : decode cX5_isSign 1 = .ok (.getfield 75, 3) := by decide +kernel
theorem dX5_isSign_4 : decode cX5_isSign 4 = .ok (.iload_n 1, 1) := by decide +kernel
theorem dX5_isSign_5 : decode cX5_isSign 5 = .ok (.if_icmp .ge 16, 3) := by decide +kernel
theorem dX5_isSign_8 : decode cX5_isSign 8 = .ok (.aload_n 0, 1) := by decide +kernel
theorem dX5_isSign_9 : decode cX5_isSign 9 = .ok (.getfield 16, 3) := by decide +kernel
theorem dX5_isSign_12 : decode cX5_isSign 12 = .ok (.aload_n 0, 1) := by decide +kernel
theorem dX5_isSign_13 : decode cX5_isSign 13 = .ok (.getfield 75, 3) := by decide +kernel
theorem dX5_isSign_16 : decode cX5_isSign 16 = .ok (.iaload, 1) := by decide +kernel
theorem dX5_isSign_17 : decode cX5_isSign 17 = .ok (.iload_n 2, 1) := by decide +kernel
theorem dX5_isSign_18 : decode cX5_isSign 18 = .ok (.if_icmp .eq 5, 3) := by decide +kernel
theorem dX5_isSign_21 : decode cX5_isSign 21 = .ok (.iconst 0, 1) := by decide +kernel
theorem dX5_isSign_22 : decode cX5_isSign 22 = .ok (.ireturn, 1) := by decide +kernel
theorem dX5_isSign_23 : decode cX5_isSign 23 = .ok (.aload_n 0, 1) := by decide +kernel
theorem dX5_isSign_24 : decode cX5_isSign 24 = .ok (.dup, 1) := by decide +kernel
theorem dX5_isSign_25 : decode cX5_isSign 25 = .ok (.getfield 75, 3) := by decide +kernel
theorem dX5_isSign_28 : decode cX5_isSign 28 = .ok (.iconst 1, 1) := by decide +kernel
theorem dX5_isSign_29 : decode cX5_isSign 29 = .ok (.iadd, 1) := by decide +kernel
theorem dX5_isSign_30 : decode cX5_isSign 30 = .ok (.putfield 75, 3) := by decide +kernel
theorem dX5_isSign_33 : decode cX5_isSign 33 = .ok (.iconst 1, 1) := by decide +kernel
theorem dX5_isSign_34 : decode cX5_isSign 34 = .ok (.ireturn, 1) := by decide +kernel
set_option maxRecDepth 20000 in
theorem ggX5_whoBy_X5_isSign : GoodIn wsX5_whoBy wsX5_isSign := goodIn_r _ [5, 6, 7, 15, 16, 17, 18, 19, 20, 21, 22, 23, 24, 25, 26, 27, 28, 29, 30, 31, 32, 33, 34, 35, 36, 37, 38] (by decide +kernel) (by decide +kernel)
set_option maxRecDepth 20000 in
theorem gX5_whoBy_X5_isSign : GoodIn wsX5_whoBy (wsV RX5 78 RX5 yX5_isSign wsX5_isSign) := goodIn_app (goodIn_of _ (by decide +kernel)) ggX5_whoBy_X5_isSign
set_option maxRecDepth 20000 in
theorem ggX5_whoBy_X5_digit : GoodIn wsX5_whoBy wsX5_digit := goodIn_r _ [11, 6, 7, 12, 13, 4, 14, 15, 16, 17, 18, 19, 20, 21, 22, 23, 24, 25, 26, 27, 28, 29, 30, 31, 32, 33, 34, 35, 36, 37, 38] (by decide +kernel) (by decide +kernel)
set_option maxRecDepth 20000 in
theorem gX5_whoBy_X5_digit : GoodIn wsX5_whoBy (wsV RX5 82 RX5 yX5_digit wsX5_digit) := goodIn_app (goodIn_of _ (by decide +kernel)) ggX5_whoBy_X5_digit
theorem dX5_whoBy_0 : decode cX5_whoBy 0 = .ok (.aload_n 0, 1) := by decide +kernel
theorem dX5_whoBy_1 : decode cX5_whoBy 1 = .ok (.iload_n 1, 1) := by decide +kernel
theorem dX5_whoBy_2 : decode cX5_whoBy 2 = .ok (.bipush 119, 2) := by decide +kernel
theorem dX5_whoBy_4 : decode cX5_whoBy 4 = .ok (.invokevirtual 78, 3) := by decide +kernel
theorem dX5_whoBy_7 : decode cX5_whoBy 7 = .ok (.ifCond .eq 8, 3) := by decide +kernel
theorem dX5_whoBy_10 : decode cX5_whoBy 10 = .ok (.bipush 6, 2) := by decide +kernel
theorem dX5_whoBy_12 : decode cX5_whoBy 12 = .ok (.goto 11, 3) := by decide +kernel
theorem dX5_whoBy_15 : decode cX5_whoBy 15 = .ok (.aload_n 0, 1) := by decide +kernel
theorem dX5_whoBy_16 : decode cX5_whoBy 16 = .ok (.iload_n 1, 1) := by decide +kernel
theorem dX5_whoBy_17 : decode cX5_whoBy 17 = .ok (.iload_n 2, 1) := by decide +kernel
theorem dX5_whoBy_18 : decode cX5_whoBy 18 = .ok (.iconst 1, 1) := by decide +kernel
theorem dX5_whoBy_19 : decode cX5_whoBy 19 = .ok (.isub, 1) := by decide +kernel
theorem dX5_whoBy_20 : decode cX5_whoBy 20 = .ok (.invokevirtual 82, 3) := by decide +kernel
theorem dX5_whoBy_23 : decode cX5_whoBy 23 = .ok (.ireturn, 1) := by decide +kernel
set_option maxRecDepth 20000 in
theorem ggX5_things_X5_isSheet : GoodIn wsX5_things wsX5_isSheet := goodIn_r _ [19, 20, 21, 18, 22] (by decide +kernel) (by decide +kernel)
set_option maxRecDepth 20000 in
theorem gX5_things_X5_isSheet : GoodIn wsX5_things (va_wsS RX5 86 yX5_isSheet wsX5_isSheet) := goodIn_app (goodIn_of _ (by decide +kernel)) ggX5_things_X5_isSheet
set_option maxRecDepth 20000 in
theorem ggX5_things_X5_isSort : GoodIn wsX5_things wsX5_isSort := goodIn_r _ [25, 20, 21, 18, 22] (by decide +kernel) (by decide +kernel)
set_option maxRecDepth 20000 in
theorem gX5_things_X5_isSort : GoodIn wsX5_things (va_wsS RX5 89 yX5_isSort wsX5_isSort) := goodIn_app (goodIn_of _ (by decide +kernel)) ggX5_things_X5_isSort
set_option maxRecDepth 20000 in
theorem ggX5_things_X5_against : GoodIn wsX5_things wsX5_against := goodIn_r _ [29, 30, 31, 61, 62, 63, 64, 65, 66, 67, 68, 69, 70, 71, 72, 73, 74, 75, 76, 77, 78, 79, 80, 81, 82, 83, 84] (by decide +kernel) (by decide +kernel)
set_option maxRecDepth 20000 in
theorem gX5_things_X5_against : GoodIn wsX5_things (wsV RX5 92 RX5 yX5_against wsX5_against) := goodIn_app (goodIn_of _ (by decide +kernel)) ggX5_things_X5_against
set_option maxRecDepth 20000 in
theorem ggX5_things_X5_fails : GoodIn wsX5_things wsX5_fails := goodIn_r _ [35, 1, 61, 62, 63, 64, 65, 66, 67, 68, 69, 70, 71, 72, 73, 74, 75, 76, 77, 78, 79, 80, 81, 82, 83, 84] (by decide +kernel) (by decide +kernel)
set_option maxRecDepth 20000 in
theorem gX5_things_X5_fails : GoodIn wsX5_things (wsV RX5 96 RX5 yX5_fails wsX5_fails) := goodIn_app (goodIn_of _ (by decide +kernel)) ggX5_things_X5_fails
set_option maxRecDepth 20000 in
theorem ggX5_things_X5_readAll : GoodIn wsX5_things wsX5_readAll := goodIn_r _ [39, 3, 5, 2, 40, 41, 42, 43, 18, 44, 45, 46, 47, 48, 8, 10, 49, 50, 51, 52, 53, 54, 55, 56, 20, 21, 22, 57, 58, 59, 60, 12, 14, 61, 62, 63, 64, 65, 66, 67, 68, 69, 70, 71, 72, 73, 74, 75, 76, 77, 78, 79, 80, 81, 82, 83, 84] (by decide +kernel) (by decide +kernel)
set_option maxRecDepth 20000 in
theorem gX5_things_X5_readAll : GoodIn wsX5_things (wsV RX5 100 RX5 yX5_readAll wsX5_readAll) := goodIn_app (goodIn_of _ (by decide +kernel)) ggX5_things_X5_readAll
theorem dX5_things_0 : decode cX5_things 0 = .ok (.aload_n 0, 1) := by decide +kernel
theorem dX5_things_1 : decode cX5_things 1 = .ok (.iconst 0, 1) := by decide +kernel
theorem dX5_things_2 : decode cX5_things 2 = .ok (.putfield 58, 3) := by decide +kernel
theorem dX5_things_5 : decode cX5_things 5 = .ok (.iload_n 1, 1) := by decide +kernel
theorem dX5_things_6 : decode cX5_things 6 = .ok (.invokestatic 86, 3) := by decide +kernel
theorem dX5_things_9 : decode cX5_things 9 = .ok (.ifCond .ne 5, 3) := by decide +kernel
theorem dX5_things_12 : decode cX5_things 12 = .ok (.iconst (-1), 1) := by decide +kernel
theorem dX5_things_13 : decode cX5_things 13 = .ok (.ireturn, 1) := by decide +kernel
theorem dX5_things_14 : decode cX5_things 14 = .ok (.iload_n 2, 1) := by decide +kernel
theorem dX5_things_15 : decode cX5_things 15 = .ok (.invokestatic 89, 3) := by decide +kernel
theorem dX5_things_18 : decode cX5_things 18 = .ok (.ifCond .ne 6, 3) := by decide +kernel
theorem dX5_things_21 : decode cX5_things 21 = .ok (.bipush (-2), 2) := by decide +kernel
theorem dX5_things_23 : decode cX5_things 23 = .ok (.ireturn, 1) := by decide +kernel
theorem dX5_things_24 : decode cX5_things 24 = .ok (.aload_n 0, 1) := by decide +kernel
theorem dX5_things_25 : decode cX5_things 25 = .ok (.iload_n 1, 1) := by decide +kernel
theorem dX5_things_26 : decode cX5_things 26 = .ok (.iload_n 2, 1) := by decide +kernel
theorem dX5_things_27 : decode cX5_things 27 = .ok (.iload_n 3, 1) := by decide +kernel
theorem dX5_things_28 : decode cX5_things 28 = .ok (.iload 4, 2) := by decide +kernel
theorem dX5_things_30 : decode cX5_things 30 = .ok (.invokevirtual 92, 3) := by decide +kernel
theorem dX5_things_33 : decode cX5_things 33 = .ok (.istore 5, 2) := by decide +kernel
theorem dX5_things_35 : decode cX5_things 35 = .ok (.iload 5, 2) := by decide +kernel
theorem dX5_things_37 : decode cX5_things 37 = .ok (.ifCond .eq 10, 3) := by decide +kernel
theorem dX5_things_40 : decode cX5_things 40 = .ok (.aload_n 0, 1) := by decide +kernel
theorem dX5_things_41 : decode cX5_things 41 = .ok (.iload 5, 2) := by decide +kernel
theorem dX5_things_43 : decode cX5_things 43 = .ok (.invokevirtual 96, 3) := by decide +kernel
theorem dX5_things_46 : decode cX5_things 46 = .ok (.ireturn, 1) := by decide +kernel
theorem dX5_things_47 : decode cX5_things 47 = .ok (.bipush 60, 2) := by decide +kernel
theorem dX5_things_49 : decode cX5_things 49 = .ok (.iload_n 1, 1) := by decide +kernel
theorem dX5_things_50 : decode cX5_things 50 = .ok (.imul, 1) := by decide +kernel
theorem dX5_things_51 : decode cX5_things 51 = .ok (.iload_n 3, 1) := by decide +kernel
theorem dX5_things_52 : decode cX5_things 52 = .ok (.iadd, 1) := by decide +kernel
theorem dX5_things_53 : decode cX5_things 53 = .ok (.istore 6, 2) := by decide +kernel
theorem dX5_things_55 : decode cX5_things 55 = .ok (.aload_n 0, 1) := by decide +kernel
theorem dX5_things_56 : decode cX5_things 56 = .ok (.iload 6, 2) := by decide +kernel
theorem dX5_things_58 : decode cX5_things 58 = .ok (.putfield 75, 3) := by decide +kernel
theorem dX5_things_61 : decode cX5_things 61 = .ok (.aload_n 0, 1) := by decide +kernel
theorem dX5_things_62 : decode cX5_things 62 = .ok (.iload 6, 2) := by decide +kernel
theorem dX5_things_64 : decode cX5_things 64 = .ok (.iload 4, 2) := by decide +kernel
theorem dX5_things_66 : decode cX5_things 66 = .ok (.iadd, 1) := by decide +kernel
theorem dX5_things_67 : decode cX5_things 67 = .ok (.invokevirtual 100, 3) := by decide +kernel
theorem dX5_things_70 : decode cX5_things 70 = .ok (.ifCond .ne 14, 3) := by decide +kernel
theorem dX5_things_73 : decode cX5_things 73 = .ok (.bipush (-100), 2) := by decide +kernel
theorem dX5_things_75 : decode cX5_things 75 = .ok (.aload_n 0, 1) := by decide +kernel
theorem dX5_things_76 : decode cX5_things 76 = .ok (.getfield 75, 3) := by decide +kernel
theorem dX5_things_79 : decode cX5_things 79 = .ok (.iload 6, 2) := by decide +kernel
theorem dX5_things_81 : decode cX5_things 81 = .ok (.isub, 1) := by decide +kernel
theorem dX5_things_82 : decode cX5_things 82 = .ok (.isub, 1) := by decide +kernel
theorem dX5_things_83 : decode cX5_things 83 = .ok (.ireturn, 1) := by decide +kernel
theorem dX5_things_84 : decode cX5_things 84 = .ok (.aload_n 0, 1) := by decide +kernel
theorem dX5_things_85 : decode cX5_things 85 = .ok (.aload_n 0, 1) := by decide +kernel
theorem dX5_things_86 : decode cX5_things 86 = .ok (.getfield 103, 3) := by decide +kernel
theorem dX5_things_89 : decode cX5_things 89 = .ok (.putfield 68, 3) := by decide +kernel
theorem dX5_things_92 : decode cX5_things 92 = .ok (.aload_n 0, 1) := by decide +kernel
theorem dX5_things_93 : decode cX5_things 93 = .ok (.aload_n 0, 1) := by decide +kernel
theorem dX5_things_94 : decode cX5_things 94 = .ok (.getfield 106, 3) := by decide +kernel
theorem dX5_things_97 : decode cX5_things 97 = .ok (.putfield 109, 3) := by decide +kernel
theorem dX5_things_100 : decode cX5_things 100 = .ok (.iconst 0, 1) := by decide +kernel
theorem dX5_things_101 : decode cX5_things 101 = .ok (.istore 7, 2) := by decide +kernel
theorem dX5_things_103 : decode cX5_things 103 = .ok (.iload 7, 2) := by decide +kernel
theorem dX5_things_105 : decode cX5_things 105 = .ok (.aload_n 0, 1) := by decide +kernel
theorem dX5_things_106 : decode cX5_things 106 = .ok (.getfield 68, 3) := by decide +kernel
theorem dX5_things_109 : decode cX5_things 109 = .ok (.if_icmp .ge 37, 3) := by decide +kernel
theorem dX5_things_112 : decode cX5_things 112 = .ok (.aload_n 0, 1) := by decide +kernel
theorem dX5_things_113 : decode cX5_things 113 = .ok (.getfield 19, 3) := by decide +kernel
theorem dX5_things_116 : decode cX5_things 116 = .ok (.iload 7, 2) := by decide +kernel
theorem dX5_things_118 : decode cX5_things 118 = .ok (.aload_n 0, 1) := by decide +kernel
theorem dX5_things_119 : decode cX5_things 119 = .ok (.getfield 31, 3) := by decide +kernel
theorem dX5_things_122 : decode cX5_things 122 = .ok (.iload 7, 2) := by decide +kernel
theorem dX5_things_124 : decode cX5_things 124 = .ok (.iaload, 1) := by decide +kernel
theorem dX5_things_125 : decode cX5_things 125 = .ok (.iastore, 1) := by decide +kernel
theorem dX5_things_126 : decode cX5_things 126 = .ok (.aload_n 0, 1) := by decide +kernel
theorem dX5_things_127 : decode cX5_things 127 = .ok (.getfield 22, 3) := by decide +kernel
theorem dX5_things_130 : decode cX5_things 130 = .ok (.iload 7, 2) := by decide +kernel
theorem dX5_things_132 : decode cX5_things 132 = .ok (.aload_n 0, 1) := by decide +kernel
theorem dX5_things_133 : decode cX5_things 133 = .ok (.getfield 34, 3) := by decide +kernel
theorem dX5_things_136 : decode cX5_things 136 = .ok (.iload 7, 2) := by decide +kernel
theorem dX5_things_138 : decode cX5_things 138 = .ok (.iaload, 1) := by decide +kernel
theorem dX5_things_139 : decode cX5_things 139 = .ok (.iastore, 1) := by decide +kernel
theorem dX5_things_140 : decode cX5_things 140 = .ok (.iinc 7 1, 3) := by decide +kernel
theorem dX5_things_143 : decode cX5_things 143 = .ok (.goto (-40), 3) := by decide +kernel
theorem dX5_things_146 : decode cX5_things 146 = .ok (.iconst 0, 1) := by decide +kernel
theorem dX5_things_147 : decode cX5_things 147 = .ok (.istore 7, 2) := by decide +kernel
theorem dX5_things_149 : decode cX5_things 149 = .ok (.iload 7, 2) := by decide +kernel
theorem dX5_things_151 : decode cX5_things 151 = .ok (.aload_n 0, 1) := by decide +kernel
theorem dX5_things_152 : decode cX5_things 152 = .ok (.getfield 109, 3) := by decide +kernel
theorem dX5_things_155 : decode cX5_things 155 = .ok (.if_icmp .ge 37, 3) := by decide +kernel
theorem dX5_things_158 : decode cX5_things 158 = .ok (.aload_n 0, 1) := by decide +kernel
theorem dX5_things_159 : decode cX5_things 159 = .ok (.getfield 25, 3) := by decide +kernel
theorem dX5_things_162 : decode cX5_things 162 = .ok (.iload 7, 2) := by decide +kernel
theorem dX5_things_164 : decode cX5_things 164 = .ok (.aload_n 0, 1) := by decide +kernel
theorem dX5_things_165 : decode cX5_things 165 = .ok (.getfield 37, 3) := by decide +kernel
theorem dX5_things_168 : decode cX5_things 168 = .ok (.iload 7, 2) := by decide +kernel
theorem dX5_things_170 : decode cX5_things 170 = .ok (.iaload, 1) := by decide +kernel
theorem dX5_things_171 : decode cX5_things 171 = .ok (.iastore, 1) := by decide +kernel
theorem dX5_things_172 : decode cX5_things 172 = .ok (.aload_n 0, 1) := by decide +kernel
theorem dX5_things_173 : decode cX5_things 173 = .ok (.getfield 28, 3) := by decide +kernel
theorem dX5_things_176 : decode cX5_things 176 = .ok (.iload 7, 2) := by decide +kernel
theorem dX5_things_178 : decode cX5_things 178 = .ok (.aload_n 0, 1) := by decide +kernel
theorem dX5_things_179 : decode cX5_things 179 = .ok (.getfield 40, 3) := by decide +kernel
theorem dX5_things_182 : decode cX5_things 182 = .ok (.iload 7, 2) := by decide +kernel
theorem dX5_things_184 : decode cX5_things 184 = .ok (.iaload, 1) := by decide +kernel
theorem dX5_things_185 : decode cX5_things 185 = .ok (.iastore, 1) := by decide +kernel
theorem dX5_things_186 : decode cX5_things 186 = .ok (.iinc 7 1, 3) := by decide +kernel
theorem dX5_things_189 : decode cX5_things 189 = .ok (.goto (-40), 3) := by decide +kernel
theorem dX5_things_192 : decode cX5_things 192 = .ok (.aload_n 0, 1) := by decide +kernel
theorem dX5_things_193 : decode cX5_things 193 = .ok (.iconst 0, 1) := by decide +kernel
theorem dX5_things_194 : decode cX5_things 194 = .ok (.putfield 112, 3) := by decide +kernel
theorem dX5_things_197 : decode cX5_things 197 = .ok (.aload_n 0, 1) := by decide +kernel
theorem dX5_things_198 : decode cX5_things 198 = .ok (.getfield 68, 3) := by decide +kernel
theorem dX5_things_201 : decode cX5_things 201 = .ok (.ireturn, 1) := by decide +kernel
set_option maxRecDepth 20000 in
theorem ggX5_readAll_X5_isSign : GoodIn wsX5_readAll wsX5_isSign := goodIn_r _ [9, 3, 4, 33, 34, 35, 36, 37, 38, 39, 40, 41, 42, 43, 44, 45, 46, 47, 48, 49, 50, 51, 52, 53, 54, 55, 56] (by decide +kernel) (by decide +kernel)
set_option maxRecDepth 20000 in
theorem gX5_readAll_X5_isSign : GoodIn wsX5_readAll (wsV RX5 78 RX5 yX5_isSign wsX5_isSign) := goodIn_app (goodIn_of _ (by decide +kernel)) ggX5_readAll_X5_isSign
set_option maxRecDepth 20000 in
theorem ggX5_readAll_X5_readThing : GoodIn wsX5_readAll wsX5_readThing := goodIn_r _ [13, 3, 4, 14, 1, 15, 16, 17, 18, 8, 19, 5, 6, 7, 9, 20, 21, 22, 23, 24, 25, 26, 33, 34, 35, 36, 37, 38, 39, 40, 41, 42, 43, 44, 45, 46, 47, 48, 49, 50, 51, 52, 53, 54, 55, 56] (by decide +kernel) (by decide +kernel)
set_option maxRecDepth 20000 in
theorem gX5_readAll_X5_readThing : GoodIn wsX5_readAll (wsV RX5 115 RX5 yX5_readThing wsX5_readThing) := goodIn_app (goodIn_of _ (by decide +kernel)) ggX5_readAll_X5_readThing
set_option maxRecDepth 20000 in
theorem ggX5_readAll_X5_readReference : GoodIn wsX5_readAll wsX5_readReference := goodIn_r _ [30, 1, 3, 4, 2, 31, 32, 16, 17, 18, 8, 19, 5, 6, 7, 9, 20, 21, 22, 23, 24, 25, 26, 33, 34, 35, 36, 37, 38, 39, 40, 41, 42, 43, 44, 45, 46, 47, 48, 49, 50, 51, 52, 53, 54, 55, 56] (by decide +kernel) (by decide +kernel)
set_option maxRecDepth 20000 in
theorem gX5_readAll_X5_readReference : GoodIn wsX5_readAll (wsV RX5 118 RX5 yX5_readReference wsX5_readReference) := goodIn_app (goodIn_of _ (by decide +kernel)) ggX5_readAll_X5_readReference
theorem dX5_readAll_0 : decode cX5_readAll 0 = .ok (.aload_n 0, 1) := by decide +kernel
theorem dX5_readAll_1 : decode cX5_readAll 1 = .ok (.iconst 0, 1) := by decide +kernel
theorem dX5_readAll_2 : decode cX5_readAll 2 = .ok (.putfield 103, 3) := by decide +kernel
theorem dX5_readAll_5 : decode cX5_readAll 5 = .ok (.aload_n 0, 1) := by decide +kernel
theorem dX5_readAll_6 : decode cX5_readAll 6 = .ok (.iconst 0, 1) := by decide +kernel
theorem dX5_readAll_7 : decode cX5_readAll 7 = .ok (.putfield 106, 3) := by decide +kernel
theorem dX5_readAll_10 : decode cX5_readAll 10 = .ok (.aload_n 0, 1) := by decide +kernel
theorem dX5_readAll_11 : decode cX5_readAll 11 = .ok (.iload_n 1, 1) := by decide +kernel
theorem dX5_readAll_12 : decode cX5_readAll 12 = .ok (.bipush 111, 2) := by decide +kernel
theorem dX5_readAll_14 : decode cX5_readAll 14 = .ok (.invokevirtual 78, 3) := by decide +kernel
theorem dX5_readAll_17 : decode cX5_readAll 17 = .ok (.ifCond .ne 5, 3) := by decide +kernel
theorem dX5_readAll_20 : decode cX5_readAll 20 = .ok (.iconst 0, 1) := by decide +kernel
theorem dX5_readAll_21 : decode cX5_readAll 21 = .ok (.ireturn, 1) := by decide +kernel
theorem dX5_readAll_22 : decode cX5_readAll 22 = .ok (.aload_n 0, 1) := by decide +kernel
theorem dX5_readAll_23 : decode cX5_readAll 23 = .ok (.getfield 103, 3) := by decide +kernel
theorem dX5_readAll_26 : decode cX5_readAll 26 = .ok (.ifCond .eq 34, 3) := by decide +kernel
theorem dX5_readAll_29 : decode cX5_readAll 29 = .ok (.aload_n 0, 1) := by decide +kernel
theorem dX5_readAll_30 : decode cX5_readAll 30 = .ok (.getfield 103, 3) := by decide +kernel
theorem dX5_readAll_33 : decode cX5_readAll 33 = .ok (.bipush 6, 2) := by decide +kernel
theorem dX5_readAll_35 : decode cX5_readAll 35 = .ok (.if_icmp .ge 45, 3) := by decide +kernel
theorem dX5_readAll_38 : decode cX5_readAll 38 = .ok (.aload_n 0, 1) := by decide +kernel
theorem dX5_readAll_39 : decode cX5_readAll 39 = .ok (.getfield 75, 3) := by decide +kernel
theorem dX5_readAll_42 : decode cX5_readAll 42 = .ok (.iload_n 1, 1) := by decide +kernel
theorem dX5_readAll_43 : decode cX5_readAll 43 = .ok (.if_icmp .ge 37, 3) := by decide +kernel
theorem dX5_readAll_46 : decode cX5_readAll 46 = .ok (.aload_n 0, 1) := by decide +kernel
theorem dX5_readAll_47 : decode cX5_readAll 47 = .ok (.getfield 16, 3) := by decide +kernel
theorem dX5_readAll_50 : decode cX5_readAll 50 = .ok (.aload_n 0, 1) := by decide +kernel
theorem dX5_readAll_51 : decode cX5_readAll 51 = .ok (.getfield 75, 3) := by decide +kernel
theorem dX5_readAll_54 : decode cX5_readAll 54 = .ok (.iaload, 1) := by decide +kernel
theorem dX5_readAll_55 : decode cX5_readAll 55 = .ok (.bipush 59, 2) := by decide +kernel
theorem dX5_readAll_57 : decode cX5_readAll 57 = .ok (.if_icmp .ne 23, 3) := by decide +kernel
theorem dX5_readAll_60 : decode cX5_readAll 60 = .ok (.aload_n 0, 1) := by decide +kernel
theorem dX5_readAll_61 : decode cX5_readAll 61 = .ok (.iload_n 1, 1) := by decide +kernel
theorem dX5_readAll_62 : decode cX5_readAll 62 = .ok (.bipush 59, 2) := by decide +kernel
theorem dX5_readAll_64 : decode cX5_readAll 64 = .ok (.invokevirtual 78, 3) := by decide +kernel
theorem dX5_readAll_67 : decode cX5_readAll 67 = .ok (.ifCond .eq 11, 3) := by decide +kernel
theorem dX5_readAll_70 : decode cX5_readAll 70 = .ok (.aload_n 0, 1) := by decide +kernel
theorem dX5_readAll_71 : decode cX5_readAll 71 = .ok (.iload_n 1, 1) := by decide +kernel
theorem dX5_readAll_72 : decode cX5_readAll 72 = .ok (.invokevirtual 115, 3) := by decide +kernel
theorem dX5_readAll_75 : decode cX5_readAll 75 = .ok (.ifCond .ne (-53), 3) := by decide +kernel
theorem dX5_readAll_78 : decode cX5_readAll 78 = .ok (.iconst 0, 1) := by decide +kernel
theorem dX5_readAll_79 : decode cX5_readAll 79 = .ok (.ireturn, 1) := by decide +kernel
theorem dX5_readAll_80 : decode cX5_readAll 80 = .ok (.aload_n 0, 1) := by decide +kernel
theorem dX5_readAll_81 : decode cX5_readAll 81 = .ok (.getfield 106, 3) := by decide +kernel
theorem dX5_readAll_84 : decode cX5_readAll 84 = .ok (.bipush 12, 2) := by decide +kernel
theorem dX5_readAll_86 : decode cX5_readAll 86 = .ok (.if_icmp .ge 31, 3) := by decide +kernel
theorem dX5_readAll_89 : decode cX5_readAll 89 = .ok (.aload_n 0, 1) := by decide +kernel
theorem dX5_readAll_90 : decode cX5_readAll 90 = .ok (.getfield 75, 3) := by decide +kernel
theorem dX5_readAll_93 : decode cX5_readAll 93 = .ok (.iload_n 1, 1) := by decide +kernel
theorem dX5_readAll_94 : decode cX5_readAll 94 = .ok (.if_icmp .ge 23, 3) := by decide +kernel
theorem dX5_readAll_97 : decode cX5_readAll 97 = .ok (.aload_n 0, 1) := by decide +kernel
theorem dX5_readAll_98 : decode cX5_readAll 98 = .ok (.iload_n 1, 1) := by decide +kernel
theorem dX5_readAll_99 : decode cX5_readAll 99 = .ok (.bipush 44, 2) := by decide +kernel
theorem dX5_readAll_101 : decode cX5_readAll 101 = .ok (.invokevirtual 78, 3) := by decide +kernel
theorem dX5_readAll_104 : decode cX5_readAll 104 = .ok (.ifCond .eq 11, 3) := by decide +kernel
theorem dX5_readAll_107 : decode cX5_readAll 107 = .ok (.aload_n 0, 1) := by decide +kernel
theorem dX5_readAll_108 : decode cX5_readAll 108 = .ok (.iload_n 1, 1) := by decide +kernel
theorem dX5_readAll_109 : decode cX5_readAll 109 = .ok (.invokevirtual 118, 3) := by decide +kernel
theorem dX5_readAll_112 : decode cX5_readAll 112 = .ok (.ifCond .ne (-32), 3) := by decide +kernel
theorem dX5_readAll_115 : decode cX5_readAll 115 = .ok (.iconst 0, 1) := by decide +kernel
theorem dX5_readAll_116 : decode cX5_readAll 116 = .ok (.ireturn, 1) := by decide +kernel
theorem dX5_readAll_117 : decode cX5_readAll 117 = .ok (.aload_n 0, 1) := by decide +kernel
theorem dX5_readAll_118 : decode cX5_readAll 118 = .ok (.getfield 75, 3) := by decide +kernel
theorem dX5_readAll_121 : decode cX5_readAll 121 = .ok (.iload_n 1, 1) := by decide +kernel
theorem dX5_readAll_122 : decode cX5_readAll 122 = .ok (.if_icmp .ne 7, 3) := by decide +kernel
theorem dX5_readAll_125 : decode cX5_readAll 125 = .ok (.iconst 1, 1) := by decide +kernel
theorem dX5_readAll_126 : decode cX5_readAll 126 = .ok (.goto 4, 3) := by decide +kernel
theorem dX5_readAll_129 : decode cX5_readAll 129 = .ok (.iconst 0, 1) := by decide +kernel
theorem dX5_readAll_130 : decode cX5_readAll 130 = .ok (.ireturn, 1) := by decide +kernel
set_option maxRecDepth 20000 in
theorem ggX5_readThing_X5_whoBy : GoodIn wsX5_readThing wsX5_whoBy := goodIn_r _ [10, 11, 12, 13, 9, 14, 1, 2, 15, 16, 17, 18, 19, 20, 21, 22, 23, 24, 25, 26, 27, 28, 29, 30, 31, 32, 33, 34, 35, 36, 37, 38, 39, 40, 41, 42, 43, 44, 45] (by decide +kernel) (by decide +kernel)
set_option maxRecDepth 20000 in
theorem gX5_readThing_X5_whoBy : GoodIn wsX5_readThing (wsV RX5 121 RX5 yX5_whoBy wsX5_whoBy) := goodIn_app (goodIn_of _ (by decide +kernel)) ggX5_readThing_X5_whoBy
theorem dX5_readThing_0 : decode cX5_readThing 0 = .ok (.aload_n 0, 1) := by decide +kernel
theorem dX5_readThing_1 : decode cX5_readThing 1 = .ok (.getfield 75, 3) := by decide +kernel
theorem dX5_readThing_4 : decode cX5_readThing 4 = .ok (.iload_n 1, 1) := by decide +kernel
theorem dX5_readThing_5 : decode cX5_readThing 5 = .ok (.if_icmp .ge 15, 3) := by decide +kernel
theorem dX5_readThing_8 : decode cX5_readThing 8 = .ok (.aload_n 0, 1) := by decide +kernel
theorem dX5_readThing_9 : decode cX5_readThing 9 = .ok (.getfield 16, 3) := by decide +kernel
theorem dX5_readThing_12 : decode cX5_readThing 12 = .ok (.aload_n 0, 1) := by decide +kernel
theorem dX5_readThing_13 : decode cX5_readThing 13 = .ok (.getfield 75, 3) := by decide +kernel
theorem dX5_readThing_16 : decode cX5_readThing 16 = .ok (.iaload, 1) := by decide +kernel
theorem dX5_readThing_17 : decode cX5_readThing 17 = .ok (.goto 4, 3) := by decide +kernel
theorem dX5_readThing_20 : decode cX5_readThing 20 = .ok (.iconst 0, 1) := by decide +kernel
theorem dX5_readThing_21 : decode cX5_readThing 21 = .ok (.istore_n 2, 1) := by decide +kernel
theorem dX5_readThing_22 : decode cX5_readThing 22 = .ok (.aload_n 0, 1) := by decide +kernel
theorem dX5_readThing_23 : decode cX5_readThing 23 = .ok (.getfield 31, 3) := by decide +kernel
theorem dX5_readThing_26 : decode cX5_readThing 26 = .ok (.aload_n 0, 1) := by decide +kernel
theorem dX5_readThing_27 : decode cX5_readThing 27 = .ok (.getfield 103, 3) := by decide +kernel
theorem dX5_readThing_30 : decode cX5_readThing 30 = .ok (.iload_n 2, 1) := by decide +kernel
theorem dX5_readThing_31 : decode cX5_readThing 31 = .ok (.bipush 112, 2) := by decide +kernel
theorem dX5_readThing_33 : decode cX5_readThing 33 = .ok (.if_icmp .ne 7, 3) := by decide +kernel
theorem dX5_readThing_36 : decode cX5_readThing 36 = .ok (.iconst 0, 1) := by decide +kernel
theorem dX5_readThing_37 : decode cX5_readThing 37 = .ok (.goto 25, 3) := by decide +kernel
theorem dX5_readThing_40 : decode cX5_readThing 40 = .ok (.iload_n 2, 1) := by decide +kernel
theorem dX5_readThing_41 : decode cX5_readThing 41 = .ok (.bipush 103, 2) := by decide +kernel
theorem dX5_readThing_43 : decode cX5_readThing 43 = .ok (.if_icmp .ne 7, 3) := by decide +kernel
theorem dX5_readThing_46 : decode cX5_readThing 46 = .ok (.iconst 1, 1) := by decide +kernel
theorem dX5_readThing_47 : decode cX5_readThing 47 = .ok (.goto 15, 3) := by decide +kernel
theorem dX5_readThing_50 : decode cX5_readThing 50 = .ok (.iload_n 2, 1) := by decide +kernel
theorem dX5_readThing_51 : decode cX5_readThing 51 = .ok (.bipush 100, 2) := by decide +kernel
theorem dX5_readThing_53 : decode cX5_readThing 53 = .ok (.if_icmp .ne 7, 3) := by decide +kernel
theorem dX5_readThing_56 : decode cX5_readThing 56 = .ok (.iconst 2, 1) := by decide +kernel
theorem dX5_readThing_57 : decode cX5_readThing 57 = .ok (.goto 5, 3) := by decide +kernel
theorem dX5_readThing_60 : decode cX5_readThing 60 = .ok (.bipush (-9), 2) := by decide +kernel
theorem dX5_readThing_62 : decode cX5_readThing 62 = .ok (.iastore, 1) := by decide +kernel
theorem dX5_readThing_63 : decode cX5_readThing 63 = .ok (.aload_n 0, 1) := by decide +kernel
theorem dX5_readThing_64 : decode cX5_readThing 64 = .ok (.getfield 31, 3) := by decide +kernel
theorem dX5_readThing_67 : decode cX5_readThing 67 = .ok (.aload_n 0, 1) := by decide +kernel
theorem dX5_readThing_68 : decode cX5_readThing 68 = .ok (.getfield 103, 3) := by decide +kernel
theorem dX5_readThing_71 : decode cX5_readThing 71 = .ok (.iaload, 1) := by decide +kernel
theorem dX5_readThing_72 : decode cX5_readThing 72 = .ok (.bipush (-9), 2) := by decide +kernel
theorem dX5_readThing_74 : decode cX5_readThing 74 = .ok (.if_icmp .ne 5, 3) := by decide +kernel
theorem dX5_readThing_77 : decode cX5_readThing 77 = .ok (.iconst 0, 1) := by decide +kernel
theorem dX5_readThing_78 : decode cX5_readThing 78 = .ok (.ireturn, 1) := by decide +kernel
theorem dX5_readThing_79 : decode cX5_readThing 79 = .ok (.aload_n 0, 1) := by decide +kernel
theorem dX5_readThing_80 : decode cX5_readThing 80 = .ok (.dup, 1) := by decide +kernel
theorem dX5_readThing_81 : decode cX5_readThing 81 = .ok (.getfield 75, 3) := by decide +kernel
theorem dX5_readThing_84 : decode cX5_readThing 84 = .ok (.iconst 1, 1) := by decide +kernel
theorem dX5_readThing_85 : decode cX5_readThing 85 = .ok (.iadd, 1) := by decide +kernel
theorem dX5_readThing_86 : decode cX5_readThing 86 = .ok (.putfield 75, 3) := by decide +kernel
theorem dX5_readThing_89 : decode cX5_readThing 89 = .ok (.aload_n 0, 1) := by decide +kernel
theorem dX5_readThing_90 : decode cX5_readThing 90 = .ok (.getfield 34, 3) := by decide +kernel
theorem dX5_readThing_93 : decode cX5_readThing 93 = .ok (.aload_n 0, 1) := by decide +kernel
theorem dX5_readThing_94 : decode cX5_readThing 94 = .ok (.getfield 103, 3) := by decide +kernel
theorem dX5_readThing_97 : decode cX5_readThing 97 = .ok (.aload_n 0, 1) := by decide +kernel
theorem dX5_readThing_98 : decode cX5_readThing 98 = .ok (.iload_n 1, 1) := by decide +kernel
theorem dX5_readThing_99 : decode cX5_readThing 99 = .ok (.aload_n 0, 1) := by decide +kernel
theorem dX5_readThing_100 : decode cX5_readThing 100 = .ok (.getfield 103, 3) := by decide +kernel
theorem dX5_readThing_103 : decode cX5_readThing 103 = .ok (.invokevirtual 121, 3) := by decide +kernel
theorem dX5_readThing_106 : decode cX5_readThing 106 = .ok (.iastore, 1) := by decide +kernel
theorem dX5_readThing_107 : decode cX5_readThing 107 = .ok (.aload_n 0, 1) := by decide +kernel
theorem dX5_readThing_108 : decode cX5_readThing 108 = .ok (.dup, 1) := by decide +kernel
theorem dX5_readThing_109 : decode cX5_readThing 109 = .ok (.getfield 103, 3) := by decide +kernel
theorem dX5_readThing_112 : decode cX5_readThing 112 = .ok (.iconst 1, 1) := by decide +kernel
theorem dX5_readThing_113 : decode cX5_readThing 113 = .ok (.iadd, 1) := by decide +kernel
theorem dX5_readThing_114 : decode cX5_readThing 114 = .ok (.putfield 103, 3) := by decide +kernel
theorem dX5_readThing_117 : decode cX5_readThing 117 = .ok (.aload_n 0, 1) := by decide +kernel
theorem dX5_readThing_118 : decode cX5_readThing 118 = .ok (.getfield 34, 3) := by decide +kernel
theorem dX5_readThing_121 : decode cX5_readThing 121 = .ok (.aload_n 0, 1) := by decide +kernel
theorem dX5_readThing_122 : decode cX5_readThing 122 = .ok (.getfield 103, 3) := by decide +kernel
theorem dX5_readThing_125 : decode cX5_readThing 125 = .ok (.iconst 1, 1) := by decide +kernel
theorem dX5_readThing_126 : decode cX5_readThing 126 = .ok (.isub, 1) := by decide +kernel
theorem dX5_readThing_127 : decode cX5_readThing 127 = .ok (.iaload, 1) := by decide +kernel
theorem dX5_readThing_128 : decode cX5_readThing 128 = .ok (.bipush (-9), 2) := by decide +kernel
theorem dX5_readThing_130 : decode cX5_readThing 130 = .ok (.if_icmp .eq 7, 3) := by decide +kernel
theorem dX5_readThing_133 : decode cX5_readThing 133 = .ok (.iconst 1, 1) := by decide +kernel
theorem dX5_readThing_134 : decode cX5_readThing 134 = .ok (.goto 4, 3) := by decide +kernel
theorem dX5_readThing_137 : decode cX5_readThing 137 = .ok (.iconst 0, 1) := by decide +kernel
theorem dX5_readThing_138 : decode cX5_readThing 138 = .ok (.ireturn, 1) := by decide +kernel
set_option maxRecDepth 20000 in
theorem ggX5_readReference_X5_whoBy : GoodIn wsX5_readReference wsX5_whoBy := goodIn_r _ [11, 12, 13, 14, 10, 15, 2, 3, 16, 17, 18, 19, 20, 21, 22, 23, 24, 25, 26, 27, 28, 29, 30, 31, 32, 33, 34, 35, 36, 37, 38, 39, 40, 41, 42, 43, 44, 45, 46] (by decide +kernel) (by decide +kernel)
set_option maxRecDepth 20000 in
theorem gX5_readReference_X5_whoBy : GoodIn wsX5_readReference (wsV RX5 121 RX5 yX5_whoBy wsX5_whoBy) := goodIn_app (goodIn_of _ (by decide +kernel)) ggX5_readReference_X5_whoBy
set_option maxRecDepth 20000 in
theorem ggX5_readReference_X5_within : GoodIn wsX5_readReference wsX5_within := goodIn_r _ [22] (by decide +kernel) (by decide +kernel)
set_option maxRecDepth 20000 in
theorem gX5_readReference_X5_within : GoodIn wsX5_readReference (va_wsS RX5 64 yX5_within wsX5_within) := goodIn_app (goodIn_of _ (by decide +kernel)) ggX5_readReference_X5_within
theorem dX5_readReference_0 : decode cX5_readReference 0 = .ok (.aload_n 0, 1) := by decide +kernel
theorem dX5_readReference_1 : decode cX5_readReference 1 = .ok (.iload_n 1, 1) := by decide +kernel
theorem dX5_readReference_2 : decode cX5_readReference 2 = .ok (.aload_n 0, 1) := by decide +kernel
theorem dX5_readReference_3 : decode cX5_readReference 3 = .ok (.getfield 103, 3) := by decide +kernel
theorem dX5_readReference_6 : decode cX5_readReference 6 = .ok (.invokevirtual 121, 3) := by decide +kernel
theorem dX5_readReference_9 : decode cX5_readReference 9 = .ok (.istore_n 2, 1) := by decide +kernel
theorem dX5_readReference_10 : decode cX5_readReference 10 = .ok (.iload_n 2, 1) := by decide +kernel
theorem dX5_readReference_11 : decode cX5_readReference 11 = .ok (.bipush (-9), 2) := by decide +kernel
theorem dX5_readReference_13 : decode cX5_readReference 13 = .ok (.if_icmp .ne 5, 3) := by decide +kernel
theorem dX5_readReference_16 : decode cX5_readReference 16 = .ok (.iconst 0, 1) := by decide +kernel
theorem dX5_readReference_17 : decode cX5_readReference 17 = .ok (.ireturn, 1) := by decide +kernel
theorem dX5_readReference_18 : decode cX5_readReference 18 = .ok (.aload_n 0, 1) := by decide +kernel
theorem dX5_readReference_19 : decode cX5_readReference 19 = .ok (.getfield 75, 3) := by decide +kernel
theorem dX5_readReference_22 : decode cX5_readReference 22 = .ok (.iload_n 1, 1) := by decide +kernel
theorem dX5_readReference_23 : decode cX5_readReference 23 = .ok (.if_icmp .ge 18, 3) := by decide +kernel
theorem dX5_readReference_26 : decode cX5_readReference 26 = .ok (.aload_n 0, 1) := by decide +kernel
theorem dX5_readReference_27 : decode cX5_readReference 27 = .ok (.getfield 16, 3) := by decide +kernel
theorem dX5_readReference_30 : decode cX5_readReference 30 = .ok (.aload_n 0, 1) := by decide +kernel
theorem dX5_readReference_31 : decode cX5_readReference 31 = .ok (.getfield 75, 3) := by decide +kernel
theorem dX5_readReference_34 : decode cX5_readReference 34 = .ok (.iaload, 1) := by decide +kernel
theorem dX5_readReference_35 : decode cX5_readReference 35 = .ok (.bipush 48, 2) := by decide +kernel
theorem dX5_readReference_37 : decode cX5_readReference 37 = .ok (.isub, 1) := by decide +kernel
theorem dX5_readReference_38 : decode cX5_readReference 38 = .ok (.goto 5, 3) := by decide +kernel
theorem dX5_readReference_41 : decode cX5_readReference 41 = .ok (.bipush (-9), 2) := by decide +kernel
theorem dX5_readReference_43 : decode cX5_readReference 43 = .ok (.istore_n 3, 1) := by decide +kernel
theorem dX5_readReference_44 : decode cX5_readReference 44 = .ok (.iload_n 3, 1) := by decide +kernel
theorem dX5_readReference_45 : decode cX5_readReference 45 = .ok (.iconst 0, 1) := by decide +kernel
theorem dX5_readReference_46 : decode cX5_readReference 46 = .ok (.aload_n 0, 1) := by decide +kernel
theorem dX5_readReference_47 : decode cX5_readReference 47 = .ok (.getfield 103, 3) := by decide +kernel
theorem dX5_readReference_50 : decode cX5_readReference 50 = .ok (.iconst 1, 1) := by decide +kernel
theorem dX5_readReference_51 : decode cX5_readReference 51 = .ok (.isub, 1) := by decide +kernel
theorem dX5_readReference_52 : decode cX5_readReference 52 = .ok (.invokestatic 64, 3) := by decide +kernel
theorem dX5_readReference_55 : decode cX5_readReference 55 = .ok (.ifCond .eq 8, 3) := by decide +kernel
theorem dX5_readReference_58 : decode cX5_readReference 58 = .ok (.iload_n 3, 1) := by decide +kernel
theorem dX5_readReference_59 : decode cX5_readReference 59 = .ok (.iload_n 2, 1) := by decide +kernel
theorem dX5_readReference_60 : decode cX5_readReference 60 = .ok (.if_icmp .ne 5, 3) := by decide +kernel
theorem dX5_readReference_63 : decode cX5_readReference 63 = .ok (.iconst 0, 1) := by decide +kernel
theorem dX5_readReference_64 : decode cX5_readReference 64 = .ok (.ireturn, 1) := by decide +kernel
theorem dX5_readReference_65 : decode cX5_readReference 65 = .ok (.iconst 0, 1) := by decide +kernel
theorem dX5_readReference_66 : decode cX5_readReference 66 = .ok (.istore 4, 2) := by decide +kernel
theorem dX5_readReference_68 : decode cX5_readReference 68 = .ok (.iload 4, 2) := by decide +kernel
theorem dX5_readReference_70 : decode cX5_readReference 70 = .ok (.aload_n 0, 1) := by decide +kernel
theorem dX5_readReference_71 : decode cX5_readReference 71 = .ok (.getfield 106, 3) := by decide +kernel
theorem dX5_readReference_74 : decode cX5_readReference 74 = .ok (.if_icmp .ge 33, 3) := by decide +kernel
theorem dX5_readReference_77 : decode cX5_readReference 77 = .ok (.aload_n 0, 1) := by decide +kernel
theorem dX5_readReference_78 : decode cX5_readReference 78 = .ok (.getfield 37, 3) := by decide +kernel
theorem dX5_readReference_81 : decode cX5_readReference 81 = .ok (.iload 4, 2) := by decide +kernel
theorem dX5_readReference_83 : decode cX5_readReference 83 = .ok (.iaload, 1) := by decide +kernel
theorem dX5_readReference_84 : decode cX5_readReference 84 = .ok (.iload_n 2, 1) := by decide +kernel
theorem dX5_readReference_85 : decode cX5_readReference 85 = .ok (.if_icmp .ne 16, 3) := by decide +kernel
theorem dX5_readReference_88 : decode cX5_readReference 88 = .ok (.aload_n 0, 1) := by decide +kernel
theorem dX5_readReference_89 : decode cX5_readReference 89 = .ok (.getfield 40, 3) := by decide +kernel
theorem dX5_readReference_92 : decode cX5_readReference 92 = .ok (.iload 4, 2) := by decide +kernel
theorem dX5_readReference_94 : decode cX5_readReference 94 = .ok (.iaload, 1) := by decide +kernel
theorem dX5_readReference_95 : decode cX5_readReference 95 = .ok (.iload_n 3, 1) := by decide +kernel
theorem dX5_readReference_96 : decode cX5_readReference 96 = .ok (.if_icmp .ne 5, 3) := by decide +kernel
theorem dX5_readReference_99 : decode cX5_readReference 99 = .ok (.iconst 0, 1) := by decide +kernel
theorem dX5_readReference_100 : decode cX5_readReference 100 = .ok (.ireturn, 1) := by decide +kernel
theorem dX5_readReference_101 : decode cX5_readReference 101 = .ok (.iinc 4 1, 3) := by decide +kernel
theorem dX5_readReference_104 : decode cX5_readReference 104 = .ok (.goto (-36), 3) := by decide +kernel
theorem dX5_readReference_107 : decode cX5_readReference 107 = .ok (.aload_n 0, 1) := by decide +kernel
theorem dX5_readReference_108 : decode cX5_readReference 108 = .ok (.dup, 1) := by decide +kernel
theorem dX5_readReference_109 : decode cX5_readReference 109 = .ok (.getfield 75, 3) := by decide +kernel
theorem dX5_readReference_112 : decode cX5_readReference 112 = .ok (.iconst 1, 1) := by decide +kernel
theorem dX5_readReference_113 : decode cX5_readReference 113 = .ok (.iadd, 1) := by decide +kernel
theorem dX5_readReference_114 : decode cX5_readReference 114 = .ok (.putfield 75, 3) := by decide +kernel
theorem dX5_readReference_117 : decode cX5_readReference 117 = .ok (.aload_n 0, 1) := by decide +kernel
theorem dX5_readReference_118 : decode cX5_readReference 118 = .ok (.getfield 37, 3) := by decide +kernel
theorem dX5_readReference_121 : decode cX5_readReference 121 = .ok (.aload_n 0, 1) := by decide +kernel
theorem dX5_readReference_122 : decode cX5_readReference 122 = .ok (.getfield 106, 3) := by decide +kernel
theorem dX5_readReference_125 : decode cX5_readReference 125 = .ok (.iload_n 2, 1) := by decide +kernel
theorem dX5_readReference_126 : decode cX5_readReference 126 = .ok (.iastore, 1) := by decide +kernel
theorem dX5_readReference_127 : decode cX5_readReference 127 = .ok (.aload_n 0, 1) := by decide +kernel
theorem dX5_readReference_128 : decode cX5_readReference 128 = .ok (.getfield 40, 3) := by decide +kernel
theorem dX5_readReference_131 : decode cX5_readReference 131 = .ok (.aload_n 0, 1) := by decide +kernel
theorem dX5_readReference_132 : decode cX5_readReference 132 = .ok (.getfield 106, 3) := by decide +kernel
theorem dX5_readReference_135 : decode cX5_readReference 135 = .ok (.iload_n 3, 1) := by decide +kernel
theorem dX5_readReference_136 : decode cX5_readReference 136 = .ok (.iastore, 1) := by decide +kernel
theorem dX5_readReference_137 : decode cX5_readReference 137 = .ok (.aload_n 0, 1) := by decide +kernel
theorem dX5_readReference_138 : decode cX5_readReference 138 = .ok (.dup, 1) := by decide +kernel
theorem dX5_readReference_139 : decode cX5_readReference 139 = .ok (.getfield 106, 3) := by decide +kernel
theorem dX5_readReference_142 : decode cX5_readReference 142 = .ok (.iconst 1, 1) := by decide +kernel
theorem dX5_readReference_143 : decode cX5_readReference 143 = .ok (.iadd, 1) := by decide +kernel
theorem dX5_readReference_144 : decode cX5_readReference 144 = .ok (.putfield 106, 3) := by decide +kernel
theorem dX5_readReference_147 : decode cX5_readReference 147 = .ok (.iconst 1, 1) := by decide +kernel
theorem dX5_readReference_148 : decode cX5_readReference 148 = .ok (.ireturn, 1) := by decide +kernel
theorem dX5_levelOf_0 : decode cX5_levelOf 0 = .ok (.iconst 1, 1) := by decide +kernel
theorem dX5_levelOf_1 : decode cX5_levelOf 1 = .ok (.istore_n 2, 1) := by decide +kernel
theorem dX5_levelOf_2 : decode cX5_levelOf 2 = .ok (.aload_n 0, 1) := by decide +kernel
theorem dX5_levelOf_3 : decode cX5_levelOf 3 = .ok (.getfield 22, 3) := by decide +kernel
theorem dX5_levelOf_6 : decode cX5_levelOf 6 = .ok (.iload_n 1, 1) := by decide +kernel
theorem dX5_levelOf_7 : decode cX5_levelOf 7 = .ok (.iaload, 1) := by decide +kernel
theorem dX5_levelOf_8 : decode cX5_levelOf 8 = .ok (.istore_n 3, 1) := by decide +kernel
theorem dX5_levelOf_9 : decode cX5_levelOf 9 = .ok (.iload_n 3, 1) := by decide +kernel
theorem dX5_levelOf_10 : decode cX5_levelOf 10 = .ok (.bipush 6, 2) := by decide +kernel
theorem dX5_levelOf_12 : decode cX5_levelOf 12 = .ok (.if_icmp .eq 16, 3) := by decide +kernel
theorem dX5_levelOf_15 : decode cX5_levelOf 15 = .ok (.iinc 2 1, 3) := by decide +kernel
theorem dX5_levelOf_18 : decode cX5_levelOf 18 = .ok (.aload_n 0, 1) := by decide +kernel
theorem dX5_levelOf_19 : decode cX5_levelOf 19 = .ok (.getfield 22, 3) := by decide +kernel
theorem dX5_levelOf_22 : decode cX5_levelOf 22 = .ok (.iload_n 3, 1) := by decide +kernel
theorem dX5_levelOf_23 : decode cX5_levelOf 23 = .ok (.iaload, 1) := by decide +kernel
theorem dX5_levelOf_24 : decode cX5_levelOf 24 = .ok (.istore_n 3, 1) := by decide +kernel
theorem dX5_levelOf_25 : decode cX5_levelOf 25 = .ok (.goto (-16), 3) := by decide +kernel
theorem dX5_levelOf_28 : decode cX5_levelOf 28 = .ok (.iload_n 2, 1) := by decide +kernel
theorem dX5_levelOf_29 : decode cX5_levelOf 29 = .ok (.ireturn, 1) := by decide +kernel
set_option maxRecDepth 20000 in
theorem ggX5_lockOf_X5_levelOf : GoodIn wsX5_lockOf wsX5_levelOf := goodIn_r _ [6, 7, 8, 9, 10, 11, 12, 13, 14, 15, 16, 17, 18, 19, 20, 21, 22, 23, 24, 25, 26, 27, 28, 29, 30, 31] (by decide +kernel) (by decide +kernel)
set_option maxRecDepth 20000 in
theorem gX5_lockOf_X5_levelOf : GoodIn wsX5_lockOf (wsV RX5 124 RX5 yX5_levelOf wsX5_levelOf) := goodIn_app (goodIn_of _ (by decide +kernel)) ggX5_lockOf_X5_levelOf
theorem dX5_lockOf_0 : decode cX5_lockOf 0 = .ok (.aload_n 0, 1) := by decide +kernel
theorem dX5_lockOf_1 : decode cX5_lockOf 1 = .ok (.getfield 19, 3) := by decide +kernel
theorem dX5_lockOf_4 : decode cX5_lockOf 4 = .ok (.iload_n 1, 1) := by decide +kernel
theorem dX5_lockOf_5 : decode cX5_lockOf 5 = .ok (.iaload, 1) := by decide +kernel
theorem dX5_lockOf_6 : decode cX5_lockOf 6 = .ok (.ifCond .ne 11, 3) := by decide +kernel
theorem dX5_lockOf_9 : decode cX5_lockOf 9 = .ok (.aload_n 0, 1) := by decide +kernel
theorem dX5_lockOf_10 : decode cX5_lockOf 10 = .ok (.iload_n 1, 1) := by decide +kernel
theorem dX5_lockOf_11 : decode cX5_lockOf 11 = .ok (.invokevirtual 124, 3) := by decide +kernel
theorem dX5_lockOf_14 : decode cX5_lockOf 14 = .ok (.goto 30, 3) := by decide +kernel
theorem dX5_lockOf_17 : decode cX5_lockOf 17 = .ok (.aload_n 0, 1) := by decide +kernel
theorem dX5_lockOf_18 : decode cX5_lockOf 18 = .ok (.getfield 19, 3) := by decide +kernel
theorem dX5_lockOf_21 : decode cX5_lockOf 21 = .ok (.iload_n 1, 1) := by decide +kernel
theorem dX5_lockOf_22 : decode cX5_lockOf 22 = .ok (.iaload, 1) := by decide +kernel
theorem dX5_lockOf_23 : decode cX5_lockOf 23 = .ok (.iconst 1, 1) := by decide +kernel
theorem dX5_lockOf_24 : decode cX5_lockOf 24 = .ok (.if_icmp .ne 13, 3) := by decide +kernel
theorem dX5_lockOf_27 : decode cX5_lockOf 27 = .ok (.aload_n 0, 1) := by decide +kernel
theorem dX5_lockOf_28 : decode cX5_lockOf 28 = .ok (.iload_n 1, 1) := by decide +kernel
theorem dX5_lockOf_29 : decode cX5_lockOf 29 = .ok (.invokevirtual 124, 3) := by decide +kernel
theorem dX5_lockOf_32 : decode cX5_lockOf 32 = .ok (.iconst 1, 1) := by decide +kernel
theorem dX5_lockOf_33 : decode cX5_lockOf 33 = .ok (.iadd, 1) := by decide +kernel
theorem dX5_lockOf_34 : decode cX5_lockOf 34 = .ok (.goto 10, 3) := by decide +kernel
theorem dX5_lockOf_37 : decode cX5_lockOf 37 = .ok (.iconst 2, 1) := by decide +kernel
theorem dX5_lockOf_38 : decode cX5_lockOf 38 = .ok (.aload_n 0, 1) := by decide +kernel
theorem dX5_lockOf_39 : decode cX5_lockOf 39 = .ok (.iload_n 1, 1) := by decide +kernel
theorem dX5_lockOf_40 : decode cX5_lockOf 40 = .ok (.invokevirtual 124, 3) := by decide +kernel
theorem dX5_lockOf_43 : decode cX5_lockOf 43 = .ok (.imul, 1) := by decide +kernel
theorem dX5_lockOf_44 : decode cX5_lockOf 44 = .ok (.ireturn, 1) := by decide +kernel
theorem dX5_isUnder_0 : decode cX5_isUnder 0 = .ok (.iload_n 1, 1) := by decide +kernel
theorem dX5_isUnder_1 : decode cX5_isUnder 1 = .ok (.istore_n 3, 1) := by decide +kernel
theorem dX5_isUnder_2 : decode cX5_isUnder 2 = .ok (.iload_n 3, 1) := by decide +kernel
theorem dX5_isUnder_3 : decode cX5_isUnder 3 = .ok (.bipush 6, 2) := by decide +kernel
theorem dX5_isUnder_5 : decode cX5_isUnder 5 = .ok (.if_icmp .eq 17, 3) := by decide +kernel
theorem dX5_isUnder_8 : decode cX5_isUnder 8 = .ok (.aload_n 0, 1) := by decide +kernel
theorem dX5_isUnder_9 : decode cX5_isUnder 9 = .ok (.getfield 22, 3) := by decide +kernel
theorem dX5_isUnder_12 : decode cX5_isUnder 12 = .ok (.iload_n 3, 1) := by decide +kernel
theorem dX5_isUnder_13 : decode cX5_isUnder 13 = .ok (.iaload, 1) := by decide +kernel
theorem dX5_isUnder_14 : decode cX5_isUnder 14 = .ok (.istore_n 3, 1) := by decide +kernel
theorem dX5_isUnder_15 : decode cX5_isUnder 15 = .ok (.iload_n 3, 1) := by decide +kernel
theorem dX5_isUnder_16 : decode cX5_isUnder 16 = .ok (.iload_n 2, 1) := by decide +kernel
theorem dX5_isUnder_17 : decode cX5_isUnder 17 = .ok (.if_icmp .ne (-15), 3) := by decide +kernel
theorem dX5_isUnder_20 : decode cX5_isUnder 20 = .ok (.iconst 1, 1) := by decide +kernel
theorem dX5_isUnder_21 : decode cX5_isUnder 21 = .ok (.ireturn, 1) := by decide +kernel
theorem dX5_isUnder_22 : decode cX5_isUnder 22 = .ok (.iconst 0, 1) := by decide +kernel
theorem dX5_isUnder_23 : decode cX5_isUnder 23 = .ok (.ireturn, 1) := by decide +kernel
set_option maxRecDepth 20000 in
theorem ggX5_closure_X5_isOf : GoodIn wsX5_closure wsX5_isOf := goodIn_r _ [7] (by decide +kernel) (by decide +kernel)
set_option maxRecDepth 20000 in
theorem gX5_closure_X5_isOf : GoodIn wsX5_closure (va_wsS RX5 127 yX5_isOf wsX5_isOf) := goodIn_app (goodIn_of _ (by decide +kernel)) ggX5_closure_X5_isOf
theorem dX5_closure_0 : decode cX5_closure 0 = .ok (.iload_n 1, 1) := by decide +kernel
theorem dX5_closure_1 : decode cX5_closure 1 = .ok (.istore_n 3, 1) := by decide +kernel
theorem dX5_closure_2 : decode cX5_closure 2 = .ok (.iconst 1, 1) := by decide +kernel
theorem dX5_closure_3 : decode cX5_closure 3 = .ok (.istore 4, 2) := by decide +kernel
theorem dX5_closure_5 : decode cX5_closure 5 = .ok (.iload 4, 2) := by decide +kernel
theorem dX5_closure_7 : decode cX5_closure 7 = .ok (.ifCond .eq 81, 3) := by decide +kernel
theorem dX5_closure_10 : decode cX5_closure 10 = .ok (.iconst 0, 1) := by decide +kernel
theorem dX5_closure_11 : decode cX5_closure 11 = .ok (.istore 4, 2) := by decide +kernel
theorem dX5_closure_13 : decode cX5_closure 13 = .ok (.iconst 0, 1) := by decide +kernel
theorem dX5_closure_14 : decode cX5_closure 14 = .ok (.istore 5, 2) := by decide +kernel
theorem dX5_closure_16 : decode cX5_closure 16 = .ok (.iload 5, 2) := by decide +kernel
theorem dX5_closure_18 : decode cX5_closure 18 = .ok (.aload_n 0, 1) := by decide +kernel
theorem dX5_closure_19 : decode cX5_closure 19 = .ok (.getfield 109, 3) := by decide +kernel
theorem dX5_closure_22 : decode cX5_closure 22 = .ok (.if_icmp .ge 63, 3) := by decide +kernel
theorem dX5_closure_25 : decode cX5_closure 25 = .ok (.iload_n 3, 1) := by decide +kernel
theorem dX5_closure_26 : decode cX5_closure 26 = .ok (.aload_n 0, 1) := by decide +kernel
theorem dX5_closure_27 : decode cX5_closure 27 = .ok (.getfield 25, 3) := by decide +kernel
theorem dX5_closure_30 : decode cX5_closure 30 = .ok (.iload 5, 2) := by decide +kernel
theorem dX5_closure_32 : decode cX5_closure 32 = .ok (.iaload, 1) := by decide +kernel
theorem dX5_closure_33 : decode cX5_closure 33 = .ok (.invokestatic 127, 3) := by decide +kernel
theorem dX5_closure_36 : decode cX5_closure 36 = .ok (.ifCond .eq 43, 3) := by decide +kernel
theorem dX5_closure_39 : decode cX5_closure 39 = .ok (.aload_n 0, 1) := by decide +kernel
theorem dX5_closure_40 : decode cX5_closure 40 = .ok (.getfield 28, 3) := by decide +kernel
theorem dX5_closure_43 : decode cX5_closure 43 = .ok (.iload 5, 2) := by decide +kernel
theorem dX5_closure_45 : decode cX5_closure 45 = .ok (.iaload, 1) := by decide +kernel
theorem dX5_closure_46 : decode cX5_closure 46 = .ok (.iload_n 2, 1) := by decide +kernel
theorem dX5_closure_47 : decode cX5_closure 47 = .ok (.if_icmp .eq 32, 3) := by decide +kernel
theorem dX5_closure_50 : decode cX5_closure 50 = .ok (.iload_n 3, 1) := by decide +kernel
theorem dX5_closure_51 : decode cX5_closure 51 = .ok (.aload_n 0, 1) := by decide +kernel
theorem dX5_closure_52 : decode cX5_closure 52 = .ok (.getfield 28, 3) := by decide +kernel
theorem dX5_closure_55 : decode cX5_closure 55 = .ok (.iload 5, 2) := by decide +kernel
theorem dX5_closure_57 : decode cX5_closure 57 = .ok (.iaload, 1) := by decide +kernel
theorem dX5_closure_58 : decode cX5_closure 58 = .ok (.invokestatic 127, 3) := by decide +kernel
theorem dX5_closure_61 : decode cX5_closure 61 = .ok (.ifCond .ne 18, 3) := by decide +kernel
theorem dX5_closure_64 : decode cX5_closure 64 = .ok (.iload_n 3, 1) := by decide +kernel
theorem dX5_closure_65 : decode cX5_closure 65 = .ok (.iconst 1, 1) := by decide +kernel
theorem dX5_closure_66 : decode cX5_closure 66 = .ok (.aload_n 0, 1) := by decide +kernel
theorem dX5_closure_67 : decode cX5_closure 67 = .ok (.getfield 28, 3) := by decide +kernel
theorem dX5_closure_70 : decode cX5_closure 70 = .ok (.iload 5, 2) := by decide +kernel
theorem dX5_closure_72 : decode cX5_closure 72 = .ok (.iaload, 1) := by decide +kernel
theorem dX5_closure_73 : decode cX5_closure 73 = .ok (.ishl, 1) := by decide +kernel
theorem dX5_closure_74 : decode cX5_closure 74 = .ok (.ior, 1) := by decide +kernel
theorem dX5_closure_75 : decode cX5_closure 75 = .ok (.istore_n 3, 1) := by decide +kernel
theorem dX5_closure_76 : decode cX5_closure 76 = .ok (.iconst 1, 1) := by decide +kernel
theorem dX5_closure_77 : decode cX5_closure 77 = .ok (.istore 4, 2) := by decide +kernel
theorem dX5_closure_79 : decode cX5_closure 79 = .ok (.iinc 5 1, 3) := by decide +kernel
theorem dX5_closure_82 : decode cX5_closure 82 = .ok (.goto (-66), 3) := by decide +kernel
theorem dX5_closure_85 : decode cX5_closure 85 = .ok (.goto (-80), 3) := by decide +kernel
theorem dX5_closure_88 : decode cX5_closure 88 = .ok (.iload_n 3, 1) := by decide +kernel
theorem dX5_closure_89 : decode cX5_closure 89 = .ok (.ireturn, 1) := by decide +kernel
set_option maxRecDepth 20000 in
theorem ggX5_reachedBut_X5_closure : GoodIn wsX5_reachedBut wsX5_closure := goodIn_r _ [5, 6, 7, 8, 9, 10, 4, 11, 12, 13, 14, 15, 16, 17, 18, 19, 20, 21, 22, 23, 24, 25, 26, 27, 28, 29, 30, 31, 32, 33, 34, 35] (by decide +kernel) (by decide +kernel)
set_option maxRecDepth 20000 in
theorem gX5_reachedBut_X5_closure : GoodIn wsX5_reachedBut (wsV RX5 130 RX5 yX5_closure wsX5_closure) := goodIn_app (goodIn_of _ (by decide +kernel)) ggX5_reachedBut_X5_closure
theorem dX5_reachedBut_0 : decode cX5_reachedBut 0 = .ok (.aload_n 0, 1) := by decide +kernel
theorem dX5_reachedBut_1 : decode cX5_reachedBut 1 = .ok (.bipush 64, 2) := by decide +kernel
theorem dX5_reachedBut_3 : decode cX5_reachedBut 3 = .ok (.iload_n 1, 1) := by decide +kernel
theorem dX5_reachedBut_4 : decode cX5_reachedBut 4 = .ok (.invokevirtual 130, 3) := by decide +kernel
theorem dX5_reachedBut_7 : decode cX5_reachedBut 7 = .ok (.bipush (-65), 2) := by decide +kernel
theorem dX5_reachedBut_9 : decode cX5_reachedBut 9 = .ok (.iand, 1) := by decide +kernel
theorem dX5_reachedBut_10 : decode cX5_reachedBut 10 = .ok (.ireturn, 1) := by decide +kernel
set_option maxRecDepth 20000 in
theorem ggX5_beforeOf_X5_reachedBut : GoodIn wsX5_beforeOf wsX5_reachedBut := goodIn_r _ [6, 7, 8, 9, 5, 10, 11, 12, 13, 14, 15, 16, 17, 18, 19, 20, 21, 22, 23, 24, 25, 26, 27, 28, 29, 30, 31, 32, 33, 34, 35, 36, 37, 38, 39, 40] (by decide +kernel) (by decide +kernel)
set_option maxRecDepth 20000 in
theorem gX5_beforeOf_X5_reachedBut : GoodIn wsX5_beforeOf (wsV RX5 133 RX5 yX5_reachedBut wsX5_reachedBut) := goodIn_app (goodIn_of _ (by decide +kernel)) ggX5_beforeOf_X5_reachedBut
set_option maxRecDepth 20000 in
theorem ggX5_beforeOf_X5_isOf : GoodIn wsX5_beforeOf wsX5_isOf := goodIn_r _ [16] (by decide +kernel) (by decide +kernel)
set_option maxRecDepth 20000 in
theorem gX5_beforeOf_X5_isOf : GoodIn wsX5_beforeOf (va_wsS RX5 127 yX5_isOf wsX5_isOf) := goodIn_app (goodIn_of _ (by decide +kernel)) ggX5_beforeOf_X5_isOf
theorem dX5_beforeOf_0 : decode cX5_beforeOf 0 = .ok (.aload_n 0, 1) := by decide +kernel
theorem dX5_beforeOf_1 : decode cX5_beforeOf 1 = .ok (.bipush (-9), 2) := by decide +kernel
theorem dX5_beforeOf_3 : decode cX5_beforeOf 3 = .ok (.invokevirtual 133, 3) := by decide +kernel
theorem dX5_beforeOf_6 : decode cX5_beforeOf 6 = .ok (.iload_n 1, 1) := by decide +kernel
theorem dX5_beforeOf_7 : decode cX5_beforeOf 7 = .ok (.invokestatic 127, 3) := by decide +kernel
theorem dX5_beforeOf_10 : decode cX5_beforeOf 10 = .ok (.ifCond .ne 5, 3) := by decide +kernel
theorem dX5_beforeOf_13 : decode cX5_beforeOf 13 = .ok (.iconst 0, 1) := by decide +kernel
theorem dX5_beforeOf_14 : decode cX5_beforeOf 14 = .ok (.ireturn, 1) := by decide +kernel
theorem dX5_beforeOf_15 : decode cX5_beforeOf 15 = .ok (.bipush 64, 2) := by decide +kernel
theorem dX5_beforeOf_17 : decode cX5_beforeOf 17 = .ok (.iconst 1, 1) := by decide +kernel
theorem dX5_beforeOf_18 : decode cX5_beforeOf 18 = .ok (.iload_n 1, 1) := by decide +kernel
theorem dX5_beforeOf_19 : decode cX5_beforeOf 19 = .ok (.ishl, 1) := by decide +kernel
theorem dX5_beforeOf_20 : decode cX5_beforeOf 20 = .ok (.ior, 1) := by decide +kernel
theorem dX5_beforeOf_21 : decode cX5_beforeOf 21 = .ok (.istore_n 2, 1) := by decide +kernel
theorem dX5_beforeOf_22 : decode cX5_beforeOf 22 = .ok (.iconst 0, 1) := by decide +kernel
theorem dX5_beforeOf_23 : decode cX5_beforeOf 23 = .ok (.istore_n 3, 1) := by decide +kernel
theorem dX5_beforeOf_24 : decode cX5_beforeOf 24 = .ok (.iload_n 3, 1) := by decide +kernel
theorem dX5_beforeOf_25 : decode cX5_beforeOf 25 = .ok (.aload_n 0, 1) := by decide +kernel
theorem dX5_beforeOf_26 : decode cX5_beforeOf 26 = .ok (.getfield 68, 3) := by decide +kernel
theorem dX5_beforeOf_29 : decode cX5_beforeOf 29 = .ok (.if_icmp .ge 31, 3) := by decide +kernel
theorem dX5_beforeOf_32 : decode cX5_beforeOf 32 = .ok (.iload_n 2, 1) := by decide +kernel
theorem dX5_beforeOf_33 : decode cX5_beforeOf 33 = .ok (.aload_n 0, 1) := by decide +kernel
theorem dX5_beforeOf_34 : decode cX5_beforeOf 34 = .ok (.iload_n 3, 1) := by decide +kernel
theorem dX5_beforeOf_35 : decode cX5_beforeOf 35 = .ok (.invokevirtual 133, 3) := by decide +kernel
theorem dX5_beforeOf_38 : decode cX5_beforeOf 38 = .ok (.iload_n 1, 1) := by decide +kernel
theorem dX5_beforeOf_39 : decode cX5_beforeOf 39 = .ok (.invokestatic 127, 3) := by decide +kernel
theorem dX5_beforeOf_42 : decode cX5_beforeOf 42 = .ok (.ifCond .eq 7, 3) := by decide +kernel
theorem dX5_beforeOf_45 : decode cX5_beforeOf 45 = .ok (.iconst 0, 1) := by decide +kernel
theorem dX5_beforeOf_46 : decode cX5_beforeOf 46 = .ok (.goto 6, 3) := by decide +kernel
theorem dX5_beforeOf_49 : decode cX5_beforeOf 49 = .ok (.iconst 1, 1) := by decide +kernel
theorem dX5_beforeOf_50 : decode cX5_beforeOf 50 = .ok (.iload_n 3, 1) := by decide +kernel
theorem dX5_beforeOf_51 : decode cX5_beforeOf 51 = .ok (.ishl, 1) := by decide +kernel
theorem dX5_beforeOf_52 : decode cX5_beforeOf 52 = .ok (.ior, 1) := by decide +kernel
theorem dX5_beforeOf_53 : decode cX5_beforeOf 53 = .ok (.istore_n 2, 1) := by decide +kernel
theorem dX5_beforeOf_54 : decode cX5_beforeOf 54 = .ok (.iinc 3 1, 3) := by decide +kernel
theorem dX5_beforeOf_57 : decode cX5_beforeOf 57 = .ok (.goto (-33), 3) := by decide +kernel
theorem dX5_beforeOf_60 : decode cX5_beforeOf 60 = .ok (.iload_n 2, 1) := by decide +kernel
theorem dX5_beforeOf_61 : decode cX5_beforeOf 61 = .ok (.ireturn, 1) := by decide +kernel
set_option maxRecDepth 20000 in
theorem ggX5_isLawful_X5_beforeOf : GoodIn wsX5_isLawful wsX5_beforeOf := goodIn_r _ [6, 7, 8, 9, 10, 5, 11, 12, 13, 14, 15, 16, 17, 18, 19, 20, 21, 22, 23, 24, 25, 26, 27, 28, 29, 30, 31, 32, 33, 34, 35, 36, 37, 38, 39, 40, 41, 42, 43, 44, 45] (by decide +kernel) (by decide +kernel)
set_option maxRecDepth 20000 in
theorem gX5_isLawful_X5_beforeOf : GoodIn wsX5_isLawful (wsV RX5 136 RX5 yX5_beforeOf wsX5_beforeOf) := goodIn_app (goodIn_of _ (by decide +kernel)) ggX5_isLawful_X5_beforeOf
set_option maxRecDepth 20000 in
theorem ggX5_isLawful_X5_isOf : GoodIn wsX5_isLawful wsX5_isOf := goodIn_r _ [21] (by decide +kernel) (by decide +kernel)
set_option maxRecDepth 20000 in
theorem gX5_isLawful_X5_isOf : GoodIn wsX5_isLawful (va_wsS RX5 127 yX5_isOf wsX5_isOf) := goodIn_app (goodIn_of _ (by decide +kernel)) ggX5_isLawful_X5_isOf
theorem dX5_isLawful_0 : decode cX5_isLawful 0 = .ok (.aload_n 0, 1) := by decide +kernel
theorem dX5_isLawful_1 : decode cX5_isLawful 1 = .ok (.iload_n 1, 1) := by decide +kernel
theorem dX5_isLawful_2 : decode cX5_isLawful 2 = .ok (.invokevirtual 136, 3) := by decide +kernel
theorem dX5_isLawful_5 : decode cX5_isLawful 5 = .ok (.istore_n 2, 1) := by decide +kernel
theorem dX5_isLawful_6 : decode cX5_isLawful 6 = .ok (.iload_n 2, 1) := by decide +kernel
theorem dX5_isLawful_7 : decode cX5_isLawful 7 = .ok (.ifCond .eq 16, 3) := by decide +kernel
theorem dX5_isLawful_10 : decode cX5_isLawful 10 = .ok (.iload_n 2, 1) := by decide +kernel
theorem dX5_isLawful_11 : decode cX5_isLawful 11 = .ok (.aload_n 0, 1) := by decide +kernel
theorem dX5_isLawful_12 : decode cX5_isLawful 12 = .ok (.getfield 22, 3) := by decide +kernel
theorem dX5_isLawful_15 : decode cX5_isLawful 15 = .ok (.iload_n 1, 1) := by decide +kernel
theorem dX5_isLawful_16 : decode cX5_isLawful 16 = .ok (.iaload, 1) := by decide +kernel
theorem dX5_isLawful_17 : decode cX5_isLawful 17 = .ok (.invokestatic 127, 3) := by decide +kernel
theorem dX5_isLawful_20 : decode cX5_isLawful 20 = .ok (.ifCond .eq 7, 3) := by decide +kernel
theorem dX5_isLawful_23 : decode cX5_isLawful 23 = .ok (.iconst 1, 1) := by decide +kernel
theorem dX5_isLawful_24 : decode cX5_isLawful 24 = .ok (.goto 4, 3) := by decide +kernel
theorem dX5_isLawful_27 : decode cX5_isLawful 27 = .ok (.iconst 0, 1) := by decide +kernel
theorem dX5_isLawful_28 : decode cX5_isLawful 28 = .ok (.ireturn, 1) := by decide +kernel
set_option maxRecDepth 20000 in
theorem ggX5_unlawfulNow_X5_isLawful : GoodIn wsX5_unlawfulNow wsX5_isLawful := goodIn_r _ [6, 7, 8, 9, 10, 5, 11, 1, 12, 13, 14, 15, 16, 17, 18, 19, 20, 21, 22, 23, 24, 25, 26, 27, 28, 29, 30, 31, 32, 33, 34, 35, 36, 37, 38, 39, 40, 41, 42, 43, 44, 45, 46, 47, 48, 49] (by decide +kernel) (by decide +kernel)
set_option maxRecDepth 20000 in
theorem gX5_unlawfulNow_X5_isLawful : GoodIn wsX5_unlawfulNow (wsV RX5 139 RX5 yX5_isLawful wsX5_isLawful) := goodIn_app (goodIn_of _ (by decide +kernel)) ggX5_unlawfulNow_X5_isLawful
theorem dX5_unlawfulNow_0 : decode cX5_unlawfulNow 0 = .ok (.iconst 0, 1) := by decide +kernel
theorem dX5_unlawfulNow_1 : decode cX5_unlawfulNow 1 = .ok (.istore_n 1, 1) := by decide +kernel
theorem dX5_unlawfulNow_2 : decode cX5_unlawfulNow 2 = .ok (.iconst 0, 1) := by decide +kernel
theorem dX5_unlawfulNow_3 : decode cX5_unlawfulNow 3 = .ok (.istore_n 2, 1) := by decide +kernel
theorem dX5_unlawfulNow_4 : decode cX5_unlawfulNow 4 = .ok (.iload_n 2, 1) := by decide +kernel
theorem dX5_unlawfulNow_5 : decode cX5_unlawfulNow 5 = .ok (.aload_n 0, 1) := by decide +kernel
theorem dX5_unlawfulNow_6 : decode cX5_unlawfulNow 6 = .ok (.getfield 68, 3) := by decide +kernel
theorem dX5_unlawfulNow_9 : decode cX5_unlawfulNow 9 = .ok (.if_icmp .ge 27, 3) := by decide +kernel
theorem dX5_unlawfulNow_12 : decode cX5_unlawfulNow 12 = .ok (.iload_n 1, 1) := by decide +kernel
theorem dX5_unlawfulNow_13 : decode cX5_unlawfulNow 13 = .ok (.aload_n 0, 1) := by decide +kernel
theorem dX5_unlawfulNow_14 : decode cX5_unlawfulNow 14 = .ok (.iload_n 2, 1) := by decide +kernel
theorem dX5_unlawfulNow_15 : decode cX5_unlawfulNow 15 = .ok (.invokevirtual 139, 3) := by decide +kernel
theorem dX5_unlawfulNow_18 : decode cX5_unlawfulNow 18 = .ok (.ifCond .eq 7, 3) := by decide +kernel
theorem dX5_unlawfulNow_21 : decode cX5_unlawfulNow 21 = .ok (.iconst 0, 1) := by decide +kernel
theorem dX5_unlawfulNow_22 : decode cX5_unlawfulNow 22 = .ok (.goto 6, 3) := by decide +kernel
theorem dX5_unlawfulNow_25 : decode cX5_unlawfulNow 25 = .ok (.iconst 1, 1) := by decide +kernel
theorem dX5_unlawfulNow_26 : decode cX5_unlawfulNow 26 = .ok (.iload_n 2, 1) := by decide +kernel
theorem dX5_unlawfulNow_27 : decode cX5_unlawfulNow 27 = .ok (.ishl, 1) := by decide +kernel
theorem dX5_unlawfulNow_28 : decode cX5_unlawfulNow 28 = .ok (.ior, 1) := by decide +kernel
theorem dX5_unlawfulNow_29 : decode cX5_unlawfulNow 29 = .ok (.istore_n 1, 1) := by decide +kernel
theorem dX5_unlawfulNow_30 : decode cX5_unlawfulNow 30 = .ok (.iinc 2 1, 3) := by decide +kernel
theorem dX5_unlawfulNow_33 : decode cX5_unlawfulNow 33 = .ok (.goto (-29), 3) := by decide +kernel
theorem dX5_unlawfulNow_36 : decode cX5_unlawfulNow 36 = .ok (.iload_n 1, 1) := by decide +kernel
theorem dX5_unlawfulNow_37 : decode cX5_unlawfulNow 37 = .ok (.ireturn, 1) := by decide +kernel
set_option maxRecDepth 20000 in
theorem ggX5_nearestOf_X5_beforeOf : GoodIn wsX5_nearestOf wsX5_beforeOf := goodIn_r _ [6, 1, 7, 8, 9, 5, 10, 11, 12, 13, 14, 15, 16, 17, 18, 19, 20, 24, 25, 26, 27, 28, 29, 30, 31, 32, 33, 34, 35, 36, 37, 38, 39, 40, 41, 42, 43, 44, 45, 46, 47] (by decide +kernel) (by decide +kernel)
set_option maxRecDepth 20000 in
theorem gX5_nearestOf_X5_beforeOf : GoodIn wsX5_nearestOf (wsV RX5 136 RX5 yX5_beforeOf wsX5_beforeOf) := goodIn_app (goodIn_of _ (by decide +kernel)) ggX5_nearestOf_X5_beforeOf
set_option maxRecDepth 20000 in
theorem ggX5_nearestOf_X5_isOf : GoodIn wsX5_nearestOf wsX5_isOf := goodIn_r _ [20] (by decide +kernel) (by decide +kernel)
set_option maxRecDepth 20000 in
theorem gX5_nearestOf_X5_isOf : GoodIn wsX5_nearestOf (va_wsS RX5 127 yX5_isOf wsX5_isOf) := goodIn_app (goodIn_of _ (by decide +kernel)) ggX5_nearestOf_X5_isOf
set_option maxRecDepth 20000 in
theorem ggX5_nearestOf_X5_size : GoodIn wsX5_nearestOf wsX5_size := goodIn_r _ [23] (by decide +kernel) (by decide +kernel)
set_option maxRecDepth 20000 in
theorem gX5_nearestOf_X5_size : GoodIn wsX5_nearestOf (va_wsS RX5 142 yX5_size wsX5_size) := goodIn_app (goodIn_of _ (by decide +kernel)) ggX5_nearestOf_X5_size
theorem dX5_nearestOf_0 : decode cX5_nearestOf 0 = .ok (.aload_n 0, 1) := by decide +kernel
theorem dX5_nearestOf_1 : decode cX5_nearestOf 1 = .ok (.iload_n 1, 1) := by decide +kernel
theorem dX5_nearestOf_2 : decode cX5_nearestOf 2 = .ok (.invokevirtual 136, 3) := by decide +kernel
theorem dX5_nearestOf_5 : decode cX5_nearestOf 5 = .ok (.istore_n 2, 1) := by decide +kernel
theorem dX5_nearestOf_6 : decode cX5_nearestOf 6 = .ok (.bipush 6, 2) := by decide +kernel
theorem dX5_nearestOf_8 : decode cX5_nearestOf 8 = .ok (.istore_n 3, 1) := by decide +kernel
theorem dX5_nearestOf_9 : decode cX5_nearestOf 9 = .ok (.iconst 1, 1) := by decide +kernel
theorem dX5_nearestOf_10 : decode cX5_nearestOf 10 = .ok (.istore 4, 2) := by decide +kernel
theorem dX5_nearestOf_12 : decode cX5_nearestOf 12 = .ok (.iconst 0, 1) := by decide +kernel
theorem dX5_nearestOf_13 : decode cX5_nearestOf 13 = .ok (.istore 5, 2) := by decide +kernel
theorem dX5_nearestOf_15 : decode cX5_nearestOf 15 = .ok (.iload 5, 2) := by decide +kernel
theorem dX5_nearestOf_17 : decode cX5_nearestOf 17 = .ok (.aload_n 0, 1) := by decide +kernel
theorem dX5_nearestOf_18 : decode cX5_nearestOf 18 = .ok (.getfield 68, 3) := by decide +kernel
theorem dX5_nearestOf_21 : decode cX5_nearestOf 21 = .ok (.if_icmp .ge 53, 3) := by decide +kernel
theorem dX5_nearestOf_24 : decode cX5_nearestOf 24 = .ok (.iload 5, 2) := by decide +kernel
theorem dX5_nearestOf_26 : decode cX5_nearestOf 26 = .ok (.iload_n 1, 1) := by decide +kernel
theorem dX5_nearestOf_27 : decode cX5_nearestOf 27 = .ok (.if_icmp .eq 24, 3) := by decide +kernel
theorem dX5_nearestOf_30 : decode cX5_nearestOf 30 = .ok (.iload_n 2, 1) := by decide +kernel
theorem dX5_nearestOf_31 : decode cX5_nearestOf 31 = .ok (.iload 5, 2) := by decide +kernel
theorem dX5_nearestOf_33 : decode cX5_nearestOf 33 = .ok (.invokestatic 127, 3) := by decide +kernel
theorem dX5_nearestOf_36 : decode cX5_nearestOf 36 = .ok (.ifCond .eq 15, 3) := by decide +kernel
theorem dX5_nearestOf_39 : decode cX5_nearestOf 39 = .ok (.aload_n 0, 1) := by decide +kernel
theorem dX5_nearestOf_40 : decode cX5_nearestOf 40 = .ok (.iload 5, 2) := by decide +kernel
theorem dX5_nearestOf_42 : decode cX5_nearestOf 42 = .ok (.invokevirtual 136, 3) := by decide +kernel
theorem dX5_nearestOf_45 : decode cX5_nearestOf 45 = .ok (.invokestatic 142, 3) := by decide +kernel
theorem dX5_nearestOf_48 : decode cX5_nearestOf 48 = .ok (.goto 4, 3) := by decide +kernel
theorem dX5_nearestOf_51 : decode cX5_nearestOf 51 = .ok (.iconst 0, 1) := by decide +kernel
theorem dX5_nearestOf_52 : decode cX5_nearestOf 52 = .ok (.istore 6, 2) := by decide +kernel
theorem dX5_nearestOf_54 : decode cX5_nearestOf 54 = .ok (.iload 6, 2) := by decide +kernel
theorem dX5_nearestOf_56 : decode cX5_nearestOf 56 = .ok (.iload 4, 2) := by decide +kernel
theorem dX5_nearestOf_58 : decode cX5_nearestOf 58 = .ok (.if_icmp .le 10, 3) := by decide +kernel
theorem dX5_nearestOf_61 : decode cX5_nearestOf 61 = .ok (.iload 6, 2) := by decide +kernel
theorem dX5_nearestOf_63 : decode cX5_nearestOf 63 = .ok (.istore 4, 2) := by decide +kernel
theorem dX5_nearestOf_65 : decode cX5_nearestOf 65 = .ok (.iload 5, 2) := by decide +kernel
theorem dX5_nearestOf_67 : decode cX5_nearestOf 67 = .ok (.istore_n 3, 1) := by decide +kernel
theorem dX5_nearestOf_68 : decode cX5_nearestOf 68 = .ok (.iinc 5 1, 3) := by decide +kernel
theorem dX5_nearestOf_71 : decode cX5_nearestOf 71 = .ok (.goto (-56), 3) := by decide +kernel
theorem dX5_nearestOf_74 : decode cX5_nearestOf 74 = .ok (.iload_n 3, 1) := by decide +kernel
theorem dX5_nearestOf_75 : decode cX5_nearestOf 75 = .ok (.ireturn, 1) := by decide +kernel
set_option maxRecDepth 20000 in
theorem ggX5_isClosed_X5_closure : GoodIn wsX5_isClosed wsX5_closure := goodIn_r _ [8, 1, 2, 3, 9, 10, 7, 11, 12, 13, 14, 15, 16, 17, 18, 19, 20, 21, 22, 23, 24, 25, 26, 27, 28, 29, 30, 31, 32, 33, 34, 35] (by decide +kernel) (by decide +kernel)
set_option maxRecDepth 20000 in
theorem gX5_isClosed_X5_closure : GoodIn wsX5_isClosed (wsV RX5 130 RX5 yX5_closure wsX5_closure) := goodIn_app (goodIn_of _ (by decide +kernel)) ggX5_isClosed_X5_closure
set_option maxRecDepth 20000 in
theorem ggX5_isClosed_X5_isOf : GoodIn wsX5_isClosed wsX5_isOf := goodIn_r _ [11] (by decide +kernel) (by decide +kernel)
set_option maxRecDepth 20000 in
theorem gX5_isClosed_X5_isOf : GoodIn wsX5_isClosed (va_wsS RX5 127 yX5_isOf wsX5_isOf) := goodIn_app (goodIn_of _ (by decide +kernel)) ggX5_isClosed_X5_isOf
theorem dX5_isClosed_0 : decode cX5_isClosed 0 = .ok (.aload_n 0, 1) := by decide +kernel
theorem dX5_isClosed_1 : decode cX5_isClosed 1 = .ok (.iconst 1, 1) := by decide +kernel
theorem dX5_isClosed_2 : decode cX5_isClosed 2 = .ok (.iload_n 1, 1) := by decide +kernel
theorem dX5_isClosed_3 : decode cX5_isClosed 3 = .ok (.ishl, 1) := by decide +kernel
theorem dX5_isClosed_4 : decode cX5_isClosed 4 = .ok (.bipush (-9), 2) := by decide +kernel
theorem dX5_isClosed_6 : decode cX5_isClosed 6 = .ok (.invokevirtual 130, 3) := by decide +kernel
theorem dX5_isClosed_9 : decode cX5_isClosed 9 = .ok (.istore_n 2, 1) := by decide +kernel
theorem dX5_isClosed_10 : decode cX5_isClosed 10 = .ok (.iconst 0, 1) := by decide +kernel
theorem dX5_isClosed_11 : decode cX5_isClosed 11 = .ok (.istore_n 3, 1) := by decide +kernel
theorem dX5_isClosed_12 : decode cX5_isClosed 12 = .ok (.iload_n 3, 1) := by decide +kernel
theorem dX5_isClosed_13 : decode cX5_isClosed 13 = .ok (.aload_n 0, 1) := by decide +kernel
theorem dX5_isClosed_14 : decode cX5_isClosed 14 = .ok (.getfield 109, 3) := by decide +kernel
theorem dX5_isClosed_17 : decode cX5_isClosed 17 = .ok (.if_icmp .ge 47, 3) := by decide +kernel
theorem dX5_isClosed_20 : decode cX5_isClosed 20 = .ok (.iload_n 2, 1) := by decide +kernel
theorem dX5_isClosed_21 : decode cX5_isClosed 21 = .ok (.aload_n 0, 1) := by decide +kernel
theorem dX5_isClosed_22 : decode cX5_isClosed 22 = .ok (.getfield 25, 3) := by decide +kernel
theorem dX5_isClosed_25 : decode cX5_isClosed 25 = .ok (.iload_n 3, 1) := by decide +kernel
theorem dX5_isClosed_26 : decode cX5_isClosed 26 = .ok (.iaload, 1) := by decide +kernel
theorem dX5_isClosed_27 : decode cX5_isClosed 27 = .ok (.invokestatic 127, 3) := by decide +kernel
theorem dX5_isClosed_30 : decode cX5_isClosed 30 = .ok (.ifCond .ne 28, 3) := by decide +kernel
theorem dX5_isClosed_33 : decode cX5_isClosed 33 = .ok (.iload_n 2, 1) := by decide +kernel
theorem dX5_isClosed_34 : decode cX5_isClosed 34 = .ok (.aload_n 0, 1) := by decide +kernel
theorem dX5_isClosed_35 : decode cX5_isClosed 35 = .ok (.getfield 28, 3) := by decide +kernel
theorem dX5_isClosed_38 : decode cX5_isClosed 38 = .ok (.iload_n 3, 1) := by decide +kernel
theorem dX5_isClosed_39 : decode cX5_isClosed 39 = .ok (.iaload, 1) := by decide +kernel
theorem dX5_isClosed_40 : decode cX5_isClosed 40 = .ok (.invokestatic 127, 3) := by decide +kernel
theorem dX5_isClosed_43 : decode cX5_isClosed 43 = .ok (.ifCond .eq 15, 3) := by decide +kernel
theorem dX5_isClosed_46 : decode cX5_isClosed 46 = .ok (.aload_n 0, 1) := by decide +kernel
theorem dX5_isClosed_47 : decode cX5_isClosed 47 = .ok (.getfield 28, 3) := by decide +kernel
theorem dX5_isClosed_50 : decode cX5_isClosed 50 = .ok (.iload_n 3, 1) := by decide +kernel
theorem dX5_isClosed_51 : decode cX5_isClosed 51 = .ok (.iaload, 1) := by decide +kernel
theorem dX5_isClosed_52 : decode cX5_isClosed 52 = .ok (.iload_n 1, 1) := by decide +kernel
theorem dX5_isClosed_53 : decode cX5_isClosed 53 = .ok (.if_icmp .eq 5, 3) := by decide +kernel
theorem dX5_isClosed_56 : decode cX5_isClosed 56 = .ok (.iconst 0, 1) := by decide +kernel
theorem dX5_isClosed_57 : decode cX5_isClosed 57 = .ok (.ireturn, 1) := by decide +kernel
theorem dX5_isClosed_58 : decode cX5_isClosed 58 = .ok (.iinc 3 1, 3) := by decide +kernel
theorem dX5_isClosed_61 : decode cX5_isClosed 61 = .ok (.goto (-49), 3) := by decide +kernel
theorem dX5_isClosed_64 : decode cX5_isClosed 64 = .ok (.iconst 1, 1) := by decide +kernel
theorem dX5_isClosed_65 : decode cX5_isClosed 65 = .ok (.ireturn, 1) := by decide +kernel
theorem dX5_referredBy_0 : decode cX5_referredBy 0 = .ok (.iconst 0, 1) := by decide +kernel
theorem dX5_referredBy_1 : decode cX5_referredBy 1 = .ok (.istore_n 2, 1) := by decide +kernel
theorem dX5_referredBy_2 : decode cX5_referredBy 2 = .ok (.iconst 0, 1) := by decide +kernel
theorem dX5_referredBy_3 : decode cX5_referredBy 3 = .ok (.istore_n 3, 1) := by decide +kernel
theorem dX5_referredBy_4 : decode cX5_referredBy 4 = .ok (.iload_n 3, 1) := by decide +kernel
theorem dX5_referredBy_5 : decode cX5_referredBy 5 = .ok (.aload_n 0, 1) := by decide +kernel
theorem dX5_referredBy_6 : decode cX5_referredBy 6 = .ok (.getfield 109, 3) := by decide +kernel
theorem dX5_referredBy_9 : decode cX5_referredBy 9 = .ok (.if_icmp .ge 34, 3) := by decide +kernel
theorem dX5_referredBy_12 : decode cX5_referredBy 12 = .ok (.iload_n 2, 1) := by decide +kernel
theorem dX5_referredBy_13 : decode cX5_referredBy 13 = .ok (.aload_n 0, 1) := by decide +kernel
theorem dX5_referredBy_14 : decode cX5_referredBy 14 = .ok (.getfield 25, 3) := by decide +kernel
theorem dX5_referredBy_17 : decode cX5_referredBy 17 = .ok (.iload_n 3, 1) := by decide +kernel
theorem dX5_referredBy_18 : decode cX5_referredBy 18 = .ok (.iaload, 1) := by decide +kernel
theorem dX5_referredBy_19 : decode cX5_referredBy 19 = .ok (.iload_n 1, 1) := by decide +kernel
theorem dX5_referredBy_20 : decode cX5_referredBy 20 = .ok (.if_icmp .ne 14, 3) := by decide +kernel
theorem dX5_referredBy_23 : decode cX5_referredBy 23 = .ok (.iconst 1, 1) := by decide +kernel
theorem dX5_referredBy_24 : decode cX5_referredBy 24 = .ok (.aload_n 0, 1) := by decide +kernel
theorem dX5_referredBy_25 : decode cX5_referredBy 25 = .ok (.getfield 28, 3) := by decide +kernel
theorem dX5_referredBy_28 : decode cX5_referredBy 28 = .ok (.iload_n 3, 1) := by decide +kernel
theorem dX5_referredBy_29 : decode cX5_referredBy 29 = .ok (.iaload, 1) := by decide +kernel
theorem dX5_referredBy_30 : decode cX5_referredBy 30 = .ok (.ishl, 1) := by decide +kernel
theorem dX5_referredBy_31 : decode cX5_referredBy 31 = .ok (.goto 4, 3) := by decide +kernel
theorem dX5_referredBy_34 : decode cX5_referredBy 34 = .ok (.iconst 0, 1) := by decide +kernel
theorem dX5_referredBy_35 : decode cX5_referredBy 35 = .ok (.ior, 1) := by decide +kernel
theorem dX5_referredBy_36 : decode cX5_referredBy 36 = .ok (.istore_n 2, 1) := by decide +kernel
theorem dX5_referredBy_37 : decode cX5_referredBy 37 = .ok (.iinc 3 1, 3) := by decide +kernel
theorem dX5_referredBy_40 : decode cX5_referredBy 40 = .ok (.goto (-36), 3) := by decide +kernel
theorem dX5_referredBy_43 : decode cX5_referredBy 43 = .ok (.iload_n 2, 1) := by decide +kernel
theorem dX5_referredBy_44 : decode cX5_referredBy 44 = .ok (.ireturn, 1) := by decide +kernel
set_option maxRecDepth 20000 in
theorem ggX5_ofThing_X5_isThing : GoodIn wsX5_ofThing wsX5_isThing := goodIn_r _ [7, 8, 54, 55, 56, 57, 58, 59, 60, 61, 62, 63, 64, 65, 66, 67, 68, 69, 70, 71, 72, 73, 74, 75, 76, 77] (by decide +kernel) (by decide +kernel)
set_option maxRecDepth 20000 in
theorem gX5_ofThing_X5_isThing : GoodIn wsX5_ofThing (wsV RX5 71 RX5 yX5_isThing wsX5_isThing) := goodIn_app (goodIn_of _ (by decide +kernel)) ggX5_ofThing_X5_isThing
set_option maxRecDepth 20000 in
theorem ggX5_ofThing_X5_levelOf : GoodIn wsX5_ofThing wsX5_levelOf := goodIn_r _ [12, 2, 54, 55, 56, 57, 58, 59, 60, 61, 62, 63, 64, 65, 66, 67, 68, 69, 70, 71, 72, 73, 74, 75, 76, 77] (by decide +kernel) (by decide +kernel)
set_option maxRecDepth 20000 in
theorem gX5_ofThing_X5_levelOf : GoodIn wsX5_ofThing (wsV RX5 124 RX5 yX5_levelOf wsX5_levelOf) := goodIn_app (goodIn_of _ (by decide +kernel)) ggX5_ofThing_X5_levelOf
set_option maxRecDepth 20000 in
theorem ggX5_ofThing_X5_lockOf : GoodIn wsX5_ofThing wsX5_lockOf := goodIn_r _ [16, 1, 9, 10, 11, 6, 12, 2, 54, 55, 56, 57, 58, 59, 60, 61, 62, 63, 64, 65, 66, 67, 68, 69, 70, 71, 72, 73, 74, 75, 76, 77] (by decide +kernel) (by decide +kernel)
set_option maxRecDepth 20000 in
theorem gX5_ofThing_X5_lockOf : GoodIn wsX5_ofThing (wsV RX5 145 RX5 yX5_lockOf wsX5_lockOf) := goodIn_app (goodIn_of _ (by decide +kernel)) ggX5_ofThing_X5_lockOf
set_option maxRecDepth 20000 in
theorem ggX5_ofThing_X5_referredBy : GoodIn wsX5_ofThing wsX5_referredBy := goodIn_r _ [20, 21, 22, 23, 54, 55, 56, 57, 58, 59, 60, 61, 62, 63, 64, 65, 66, 67, 68, 69, 70, 71, 72, 73, 74, 75, 76, 77] (by decide +kernel) (by decide +kernel)
set_option maxRecDepth 20000 in
theorem gX5_ofThing_X5_referredBy : GoodIn wsX5_ofThing (wsV RX5 148 RX5 yX5_referredBy wsX5_referredBy) := goodIn_app (goodIn_of _ (by decide +kernel)) ggX5_ofThing_X5_referredBy
set_option maxRecDepth 20000 in
theorem ggX5_ofThing_X5_reachedBut : GoodIn wsX5_ofThing wsX5_reachedBut := goodIn_r _ [27, 28, 29, 30, 6, 31, 21, 22, 23, 32, 33, 34, 54, 55, 56, 57, 58, 59, 60, 61, 62, 63, 64, 65, 66, 67, 68, 69, 70, 71, 72, 73, 74, 75, 76, 77] (by decide +kernel) (by decide +kernel)
set_option maxRecDepth 20000 in
theorem gX5_ofThing_X5_reachedBut : GoodIn wsX5_ofThing (wsV RX5 133 RX5 yX5_reachedBut wsX5_reachedBut) := goodIn_app (goodIn_of _ (by decide +kernel)) ggX5_ofThing_X5_reachedBut
set_option maxRecDepth 20000 in
theorem ggX5_ofThing_X5_isOf : GoodIn wsX5_ofThing wsX5_isOf := goodIn_r _ [34] (by decide +kernel) (by decide +kernel)
set_option maxRecDepth 20000 in
theorem gX5_ofThing_X5_isOf : GoodIn wsX5_ofThing (va_wsS RX5 127 yX5_isOf wsX5_isOf) := goodIn_app (goodIn_of _ (by decide +kernel)) ggX5_ofThing_X5_isOf
set_option maxRecDepth 20000 in
theorem ggX5_ofThing_X5_beforeOf : GoodIn wsX5_ofThing wsX5_beforeOf := goodIn_r _ [38, 8, 24, 25, 26, 6, 27, 28, 29, 30, 31, 21, 22, 23, 32, 33, 34, 54, 55, 56, 57, 58, 59, 60, 61, 62, 63, 64, 65, 66, 67, 68, 69, 70, 71, 72, 73, 74, 75, 76, 77] (by decide +kernel) (by decide +kernel)
set_option maxRecDepth 20000 in
theorem gX5_ofThing_X5_beforeOf : GoodIn wsX5_ofThing (wsV RX5 136 RX5 yX5_beforeOf wsX5_beforeOf) := goodIn_app (goodIn_of _ (by decide +kernel)) ggX5_ofThing_X5_beforeOf
set_option maxRecDepth 20000 in
theorem ggX5_ofThing_X5_isLawful : GoodIn wsX5_ofThing wsX5_isLawful := goodIn_r _ [42, 2, 35, 36, 37, 6, 38, 8, 24, 25, 26, 27, 28, 29, 30, 31, 21, 22, 23, 32, 33, 34, 54, 55, 56, 57, 58, 59, 60, 61, 62, 63, 64, 65, 66, 67, 68, 69, 70, 71, 72, 73, 74, 75, 76, 77] (by decide +kernel) (by decide +kernel)
set_option maxRecDepth 20000 in
theorem gX5_ofThing_X5_isLawful : GoodIn wsX5_ofThing (wsV RX5 139 RX5 yX5_isLawful wsX5_isLawful) := goodIn_app (goodIn_of _ (by decide +kernel)) ggX5_ofThing_X5_isLawful
set_option maxRecDepth 20000 in
theorem ggX5_ofThing_X5_nearestOf : GoodIn wsX5_ofThing wsX5_nearestOf := goodIn_r _ [46, 8, 35, 36, 37, 6, 38, 24, 25, 26, 27, 28, 29, 30, 31, 21, 22, 23, 32, 33, 34, 47, 48, 49, 54, 55, 56, 57, 58, 59, 60, 61, 62, 63, 64, 65, 66, 67, 68, 69, 70, 71, 72, 73, 74, 75, 76, 77] (by decide +kernel) (by decide +kernel)
set_option maxRecDepth 20000 in
theorem gX5_ofThing_X5_nearestOf : GoodIn wsX5_ofThing (wsV RX5 151 RX5 yX5_nearestOf wsX5_nearestOf) := goodIn_app (goodIn_of _ (by decide +kernel)) ggX5_ofThing_X5_nearestOf
set_option maxRecDepth 20000 in
theorem ggX5_ofThing_X5_closure : GoodIn wsX5_ofThing wsX5_closure := goodIn_r _ [31, 21, 22, 23, 32, 33, 6, 34, 54, 55, 56, 57, 58, 59, 60, 61, 62, 63, 64, 65, 66, 67, 68, 69, 70, 71, 72, 73, 74, 75, 76, 77] (by decide +kernel) (by decide +kernel)
set_option maxRecDepth 20000 in
theorem gX5_ofThing_X5_closure : GoodIn wsX5_ofThing (wsV RX5 130 RX5 yX5_closure wsX5_closure) := goodIn_app (goodIn_of _ (by decide +kernel)) ggX5_ofThing_X5_closure
set_option maxRecDepth 20000 in
theorem ggX5_ofThing_X5_isClosed : GoodIn wsX5_ofThing wsX5_isClosed := goodIn_r _ [53, 21, 22, 23, 28, 29, 30, 6, 31, 32, 33, 34, 54, 55, 56, 57, 58, 59, 60, 61, 62, 63, 64, 65, 66, 67, 68, 69, 70, 71, 72, 73, 74, 75, 76, 77] (by decide +kernel) (by decide +kernel)
set_option maxRecDepth 20000 in
theorem gX5_ofThing_X5_isClosed : GoodIn wsX5_ofThing (wsV RX5 154 RX5 yX5_isClosed wsX5_isClosed) := goodIn_app (goodIn_of _ (by decide +kernel)) ggX5_ofThing_X5_isClosed
theorem dX5_ofThing_0 : decode cX5_ofThing 0 = .ok (.aload_n 0, 1) := by decide +kernel
theorem dX5_ofThing_1 : decode cX5_ofThing 1 = .ok (.iload_n 1, 1) := by decide +kernel
theorem dX5_ofThing_2 : decode cX5_ofThing 2 = .ok (.invokevirtual 71, 3) := by decide +kernel
theorem dX5_ofThing_5 : decode cX5_ofThing 5 = .ok (.ifCond .ne 5, 3) := by decide +kernel
theorem dX5_ofThing_8 : decode cX5_ofThing 8 = .ok (.iconst (-1), 1) := by decide +kernel
theorem dX5_ofThing_9 : decode cX5_ofThing 9 = .ok (.ireturn, 1) := by decide +kernel
theorem dX5_ofThing_10 : decode cX5_ofThing 10 = .ok (.iload_n 2, 1) := by decide +kernel
theorem dX5_ofThing_11 : decode cX5_ofThing 11 = .ok (.tableswitch 158 0 10 #[57, 64, 71, 77, 83, 89, 108, 114, 128, 134, 144], 57) := by decide +kernel
theorem dX5_ofThing_68 : decode cX5_ofThing 68 = .ok (.aload_n 0, 1) := by decide +kernel
theorem dX5_ofThing_69 : decode cX5_ofThing 69 = .ok (.getfield 19, 3) := by decide +kernel
theorem dX5_ofThing_72 : decode cX5_ofThing 72 = .ok (.iload_n 1, 1) := by decide +kernel
theorem dX5_ofThing_73 : decode cX5_ofThing 73 = .ok (.iaload, 1) := by decide +kernel
theorem dX5_ofThing_74 : decode cX5_ofThing 74 = .ok (.ireturn, 1) := by decide +kernel
theorem dX5_ofThing_75 : decode cX5_ofThing 75 = .ok (.aload_n 0, 1) := by decide +kernel
theorem dX5_ofThing_76 : decode cX5_ofThing 76 = .ok (.getfield 22, 3) := by decide +kernel
theorem dX5_ofThing_79 : decode cX5_ofThing 79 = .ok (.iload_n 1, 1) := by decide +kernel
theorem dX5_ofThing_80 : decode cX5_ofThing 80 = .ok (.iaload, 1) := by decide +kernel
theorem dX5_ofThing_81 : decode cX5_ofThing 81 = .ok (.ireturn, 1) := by decide +kernel
theorem dX5_ofThing_82 : decode cX5_ofThing 82 = .ok (.aload_n 0, 1) := by decide +kernel
theorem dX5_ofThing_83 : decode cX5_ofThing 83 = .ok (.iload_n 1, 1) := by decide +kernel
theorem dX5_ofThing_84 : decode cX5_ofThing 84 = .ok (.invokevirtual 124, 3) := by decide +kernel
theorem dX5_ofThing_87 : decode cX5_ofThing 87 = .ok (.ireturn, 1) := by decide +kernel
theorem dX5_ofThing_88 : decode cX5_ofThing 88 = .ok (.aload_n 0, 1) := by decide +kernel
theorem dX5_ofThing_89 : decode cX5_ofThing 89 = .ok (.iload_n 1, 1) := by decide +kernel
theorem dX5_ofThing_90 : decode cX5_ofThing 90 = .ok (.invokevirtual 145, 3) := by decide +kernel
theorem dX5_ofThing_93 : decode cX5_ofThing 93 = .ok (.ireturn, 1) := by decide +kernel
theorem dX5_ofThing_94 : decode cX5_ofThing 94 = .ok (.aload_n 0, 1) := by decide +kernel
theorem dX5_ofThing_95 : decode cX5_ofThing 95 = .ok (.iload_n 1, 1) := by decide +kernel
theorem dX5_ofThing_96 : decode cX5_ofThing 96 = .ok (.invokevirtual 148, 3) := by decide +kernel
theorem dX5_ofThing_99 : decode cX5_ofThing 99 = .ok (.ireturn, 1) := by decide +kernel
theorem dX5_ofThing_100 : decode cX5_ofThing 100 = .ok (.aload_n 0, 1) := by decide +kernel
theorem dX5_ofThing_101 : decode cX5_ofThing 101 = .ok (.bipush (-9), 2) := by decide +kernel
theorem dX5_ofThing_103 : decode cX5_ofThing 103 = .ok (.invokevirtual 133, 3) := by decide +kernel
theorem dX5_ofThing_106 : decode cX5_ofThing 106 = .ok (.iload_n 1, 1) := by decide +kernel
theorem dX5_ofThing_107 : decode cX5_ofThing 107 = .ok (.invokestatic 127, 3) := by decide +kernel
theorem dX5_ofThing_110 : decode cX5_ofThing 110 = .ok (.ifCond .eq 7, 3) := by decide +kernel
theorem dX5_ofThing_113 : decode cX5_ofThing 113 = .ok (.iconst 1, 1) := by decide +kernel
theorem dX5_ofThing_114 : decode cX5_ofThing 114 = .ok (.goto 4, 3) := by decide +kernel
theorem dX5_ofThing_117 : decode cX5_ofThing 117 = .ok (.iconst 0, 1) := by decide +kernel
theorem dX5_ofThing_118 : decode cX5_ofThing 118 = .ok (.ireturn, 1) := by decide +kernel
theorem dX5_ofThing_119 : decode cX5_ofThing 119 = .ok (.aload_n 0, 1) := by decide +kernel
theorem dX5_ofThing_120 : decode cX5_ofThing 120 = .ok (.iload_n 1, 1) := by decide +kernel
theorem dX5_ofThing_121 : decode cX5_ofThing 121 = .ok (.invokevirtual 136, 3) := by decide +kernel
theorem dX5_ofThing_124 : decode cX5_ofThing 124 = .ok (.ireturn, 1) := by decide +kernel
theorem dX5_ofThing_125 : decode cX5_ofThing 125 = .ok (.aload_n 0, 1) := by decide +kernel
theorem dX5_ofThing_126 : decode cX5_ofThing 126 = .ok (.iload_n 1, 1) := by decide +kernel
theorem dX5_ofThing_127 : decode cX5_ofThing 127 = .ok (.invokevirtual 139, 3) := by decide +kernel
theorem dX5_ofThing_130 : decode cX5_ofThing 130 = .ok (.ifCond .eq 7, 3) := by decide +kernel
theorem dX5_ofThing_133 : decode cX5_ofThing 133 = .ok (.iconst 1, 1) := by decide +kernel
theorem dX5_ofThing_134 : decode cX5_ofThing 134 = .ok (.goto 4, 3) := by decide +kernel
theorem dX5_ofThing_137 : decode cX5_ofThing 137 = .ok (.iconst 0, 1) := by decide +kernel
theorem dX5_ofThing_138 : decode cX5_ofThing 138 = .ok (.ireturn, 1) := by decide +kernel
theorem dX5_ofThing_139 : decode cX5_ofThing 139 = .ok (.aload_n 0, 1) := by decide +kernel
theorem dX5_ofThing_140 : decode cX5_ofThing 140 = .ok (.iload_n 1, 1) := by decide +kernel
theorem dX5_ofThing_141 : decode cX5_ofThing 141 = .ok (.invokevirtual 151, 3) := by decide +kernel
theorem dX5_ofThing_144 : decode cX5_ofThing 144 = .ok (.ireturn, 1) := by decide +kernel
theorem dX5_ofThing_145 : decode cX5_ofThing 145 = .ok (.aload_n 0, 1) := by decide +kernel
theorem dX5_ofThing_146 : decode cX5_ofThing 146 = .ok (.iconst 1, 1) := by decide +kernel
theorem dX5_ofThing_147 : decode cX5_ofThing 147 = .ok (.iload_n 1, 1) := by decide +kernel
theorem dX5_ofThing_148 : decode cX5_ofThing 148 = .ok (.ishl, 1) := by decide +kernel
theorem dX5_ofThing_149 : decode cX5_ofThing 149 = .ok (.bipush (-9), 2) := by decide +kernel
theorem dX5_ofThing_151 : decode cX5_ofThing 151 = .ok (.invokevirtual 130, 3) := by decide +kernel
theorem dX5_ofThing_154 : decode cX5_ofThing 154 = .ok (.ireturn, 1) := by decide +kernel
theorem dX5_ofThing_155 : decode cX5_ofThing 155 = .ok (.aload_n 0, 1) := by decide +kernel
theorem dX5_ofThing_156 : decode cX5_ofThing 156 = .ok (.iload_n 1, 1) := by decide +kernel
theorem dX5_ofThing_157 : decode cX5_ofThing 157 = .ok (.invokevirtual 154, 3) := by decide +kernel
theorem dX5_ofThing_160 : decode cX5_ofThing 160 = .ok (.ifCond .eq 7, 3) := by decide +kernel
theorem dX5_ofThing_163 : decode cX5_ofThing 163 = .ok (.iconst 1, 1) := by decide +kernel
theorem dX5_ofThing_164 : decode cX5_ofThing 164 = .ok (.goto 4, 3) := by decide +kernel
theorem dX5_ofThing_167 : decode cX5_ofThing 167 = .ok (.iconst 0, 1) := by decide +kernel
theorem dX5_ofThing_168 : decode cX5_ofThing 168 = .ok (.ireturn, 1) := by decide +kernel
theorem dX5_ofThing_169 : decode cX5_ofThing 169 = .ok (.bipush (-2), 2) := by decide +kernel
theorem dX5_ofThing_171 : decode cX5_ofThing 171 = .ok (.ireturn, 1) := by decide +kernel
theorem dX5_placeOf_0 : decode cX5_placeOf 0 = .ok (.iconst 0, 1) := by decide +kernel
theorem dX5_placeOf_1 : decode cX5_placeOf 1 = .ok (.istore_n 3, 1) := by decide +kernel
theorem dX5_placeOf_2 : decode cX5_placeOf 2 = .ok (.iload_n 3, 1) := by decide +kernel
theorem dX5_placeOf_3 : decode cX5_placeOf 3 = .ok (.aload_n 0, 1) := by decide +kernel
theorem dX5_placeOf_4 : decode cX5_placeOf 4 = .ok (.getfield 109, 3) := by decide +kernel
theorem dX5_placeOf_7 : decode cX5_placeOf 7 = .ok (.if_icmp .ge 31, 3) := by decide +kernel
theorem dX5_placeOf_10 : decode cX5_placeOf 10 = .ok (.aload_n 0, 1) := by decide +kernel
theorem dX5_placeOf_11 : decode cX5_placeOf 11 = .ok (.getfield 25, 3) := by decide +kernel
theorem dX5_placeOf_14 : decode cX5_placeOf 14 = .ok (.iload_n 3, 1) := by decide +kernel
theorem dX5_placeOf_15 : decode cX5_placeOf 15 = .ok (.iaload, 1) := by decide +kernel
theorem dX5_placeOf_16 : decode cX5_placeOf 16 = .ok (.iload_n 1, 1) := by decide +kernel
theorem dX5_placeOf_17 : decode cX5_placeOf 17 = .ok (.if_icmp .ne 15, 3) := by decide +kernel
theorem dX5_placeOf_20 : decode cX5_placeOf 20 = .ok (.aload_n 0, 1) := by decide +kernel
theorem dX5_placeOf_21 : decode cX5_placeOf 21 = .ok (.getfield 28, 3) := by decide +kernel
theorem dX5_placeOf_24 : decode cX5_placeOf 24 = .ok (.iload_n 3, 1) := by decide +kernel
theorem dX5_placeOf_25 : decode cX5_placeOf 25 = .ok (.iaload, 1) := by decide +kernel
theorem dX5_placeOf_26 : decode cX5_placeOf 26 = .ok (.iload_n 2, 1) := by decide +kernel
theorem dX5_placeOf_27 : decode cX5_placeOf 27 = .ok (.if_icmp .ne 5, 3) := by decide +kernel
theorem dX5_placeOf_30 : decode cX5_placeOf 30 = .ok (.iload_n 3, 1) := by decide +kernel
theorem dX5_placeOf_31 : decode cX5_placeOf 31 = .ok (.ireturn, 1) := by decide +kernel
theorem dX5_placeOf_32 : decode cX5_placeOf 32 = .ok (.iinc 3 1, 3) := by decide +kernel
theorem dX5_placeOf_35 : decode cX5_placeOf 35 = .ok (.goto (-33), 3) := by decide +kernel
theorem dX5_placeOf_38 : decode cX5_placeOf 38 = .ok (.bipush (-9), 2) := by decide +kernel
theorem dX5_placeOf_40 : decode cX5_placeOf 40 = .ok (.ireturn, 1) := by decide +kernel
set_option maxRecDepth 20000 in
theorem ggX5_refers_X5_isWho : GoodIn wsX5_refers wsX5_isWho := goodIn_r _ [5, 6, 7, 8, 9, 4, 10, 18, 19, 20, 21, 22, 23, 24, 25, 26, 27, 28, 29, 30, 31, 32, 33, 34, 35, 36, 37, 38, 39, 40, 41] (by decide +kernel) (by decide +kernel)
set_option maxRecDepth 20000 in
theorem gX5_refers_X5_isWho : GoodIn wsX5_refers (wsV RX5 157 RX5 yX5_isWho wsX5_isWho) := goodIn_app (goodIn_of _ (by decide +kernel)) ggX5_refers_X5_isWho
set_option maxRecDepth 20000 in
theorem ggX5_refers_X5_isThing : GoodIn wsX5_refers wsX5_isThing := goodIn_r _ [10, 6, 18, 19, 20, 21, 22, 23, 24, 25, 26, 27, 28, 29, 30, 31, 32, 33, 34, 35, 36, 37, 38, 39, 40, 41] (by decide +kernel) (by decide +kernel)
set_option maxRecDepth 20000 in
theorem gX5_refers_X5_isThing : GoodIn wsX5_refers (wsV RX5 71 RX5 yX5_isThing wsX5_isThing) := goodIn_app (goodIn_of _ (by decide +kernel)) ggX5_refers_X5_isThing
set_option maxRecDepth 20000 in
theorem ggX5_refers_X5_placeOf : GoodIn wsX5_refers wsX5_placeOf := goodIn_r _ [14, 15, 16, 17, 18, 19, 20, 21, 22, 23, 24, 25, 26, 27, 28, 29, 30, 31, 32, 33, 34, 35, 36, 37, 38, 39, 40, 41] (by decide +kernel) (by decide +kernel)
set_option maxRecDepth 20000 in
theorem gX5_refers_X5_placeOf : GoodIn wsX5_refers (wsV RX5 160 RX5 yX5_placeOf wsX5_placeOf) := goodIn_app (goodIn_of _ (by decide +kernel)) ggX5_refers_X5_placeOf
theorem dX5_refers_0 : decode cX5_refers 0 = .ok (.aload_n 0, 1) := by decide +kernel
theorem dX5_refers_1 : decode cX5_refers 1 = .ok (.iload_n 1, 1) := by decide +kernel
theorem dX5_refers_2 : decode cX5_refers 2 = .ok (.invokevirtual 157, 3) := by decide +kernel
theorem dX5_refers_5 : decode cX5_refers 5 = .ok (.ifCond .eq 30, 3) := by decide +kernel
theorem dX5_refers_8 : decode cX5_refers 8 = .ok (.aload_n 0, 1) := by decide +kernel
theorem dX5_refers_9 : decode cX5_refers 9 = .ok (.iload_n 2, 1) := by decide +kernel
theorem dX5_refers_10 : decode cX5_refers 10 = .ok (.invokevirtual 71, 3) := by decide +kernel
theorem dX5_refers_13 : decode cX5_refers 13 = .ok (.ifCond .eq 22, 3) := by decide +kernel
theorem dX5_refers_16 : decode cX5_refers 16 = .ok (.aload_n 0, 1) := by decide +kernel
theorem dX5_refers_17 : decode cX5_refers 17 = .ok (.iload_n 1, 1) := by decide +kernel
theorem dX5_refers_18 : decode cX5_refers 18 = .ok (.iload_n 2, 1) := by decide +kernel
theorem dX5_refers_19 : decode cX5_refers 19 = .ok (.invokevirtual 160, 3) := by decide +kernel
theorem dX5_refers_22 : decode cX5_refers 22 = .ok (.bipush (-9), 2) := by decide +kernel
theorem dX5_refers_24 : decode cX5_refers 24 = .ok (.if_icmp .ne 7, 3) := by decide +kernel
theorem dX5_refers_27 : decode cX5_refers 27 = .ok (.iconst 0, 1) := by decide +kernel
theorem dX5_refers_28 : decode cX5_refers 28 = .ok (.goto 8, 3) := by decide +kernel
theorem dX5_refers_31 : decode cX5_refers 31 = .ok (.iconst 1, 1) := by decide +kernel
theorem dX5_refers_32 : decode cX5_refers 32 = .ok (.goto 4, 3) := by decide +kernel
theorem dX5_refers_35 : decode cX5_refers 35 = .ok (.iconst (-1), 1) := by decide +kernel
theorem dX5_refers_36 : decode cX5_refers 36 = .ok (.ireturn, 1) := by decide +kernel
set_option maxRecDepth 20000 in
theorem ggX5_place_X5_isWho : GoodIn wsX5_place wsX5_isWho := goodIn_r _ [5, 6, 7, 8, 9, 4, 10, 18, 19, 20, 21, 22, 23, 24, 25, 26, 27, 28, 29, 30, 31, 32, 33, 34, 35, 36, 37, 38, 39, 40, 41] (by decide +kernel) (by decide +kernel)
set_option maxRecDepth 20000 in
theorem gX5_place_X5_isWho : GoodIn wsX5_place (wsV RX5 157 RX5 yX5_isWho wsX5_isWho) := goodIn_app (goodIn_of _ (by decide +kernel)) ggX5_place_X5_isWho
set_option maxRecDepth 20000 in
theorem ggX5_place_X5_isThing : GoodIn wsX5_place wsX5_isThing := goodIn_r _ [10, 6, 18, 19, 20, 21, 22, 23, 24, 25, 26, 27, 28, 29, 30, 31, 32, 33, 34, 35, 36, 37, 38, 39, 40, 41] (by decide +kernel) (by decide +kernel)
set_option maxRecDepth 20000 in
theorem gX5_place_X5_isThing : GoodIn wsX5_place (wsV RX5 71 RX5 yX5_isThing wsX5_isThing) := goodIn_app (goodIn_of _ (by decide +kernel)) ggX5_place_X5_isThing
set_option maxRecDepth 20000 in
theorem ggX5_place_X5_placeOf : GoodIn wsX5_place wsX5_placeOf := goodIn_r _ [14, 15, 16, 17, 18, 19, 20, 21, 22, 23, 24, 25, 26, 27, 28, 29, 30, 31, 32, 33, 34, 35, 36, 37, 38, 39, 40, 41] (by decide +kernel) (by decide +kernel)
set_option maxRecDepth 20000 in
theorem gX5_place_X5_placeOf : GoodIn wsX5_place (wsV RX5 160 RX5 yX5_placeOf wsX5_placeOf) := goodIn_app (goodIn_of _ (by decide +kernel)) ggX5_place_X5_placeOf
theorem dX5_place_0 : decode cX5_place 0 = .ok (.aload_n 0, 1) := by decide +kernel
theorem dX5_place_1 : decode cX5_place 1 = .ok (.iload_n 1, 1) := by decide +kernel
theorem dX5_place_2 : decode cX5_place 2 = .ok (.invokevirtual 157, 3) := by decide +kernel
theorem dX5_place_5 : decode cX5_place 5 = .ok (.ifCond .eq 20, 3) := by decide +kernel
theorem dX5_place_8 : decode cX5_place 8 = .ok (.aload_n 0, 1) := by decide +kernel
theorem dX5_place_9 : decode cX5_place 9 = .ok (.iload_n 2, 1) := by decide +kernel
theorem dX5_place_10 : decode cX5_place 10 = .ok (.invokevirtual 71, 3) := by decide +kernel
theorem dX5_place_13 : decode cX5_place 13 = .ok (.ifCond .eq 12, 3) := by decide +kernel
theorem dX5_place_16 : decode cX5_place 16 = .ok (.aload_n 0, 1) := by decide +kernel
theorem dX5_place_17 : decode cX5_place 17 = .ok (.iload_n 1, 1) := by decide +kernel
theorem dX5_place_18 : decode cX5_place 18 = .ok (.iload_n 2, 1) := by decide +kernel
theorem dX5_place_19 : decode cX5_place 19 = .ok (.invokevirtual 160, 3) := by decide +kernel
theorem dX5_place_22 : decode cX5_place 22 = .ok (.goto 4, 3) := by decide +kernel
theorem dX5_place_25 : decode cX5_place 25 = .ok (.iconst (-1), 1) := by decide +kernel
theorem dX5_place_26 : decode cX5_place 26 = .ok (.ireturn, 1) := by decide +kernel
theorem dX5_cut_0 : decode cX5_cut 0 = .ok (.aload_n 0, 1) := by decide +kernel
theorem dX5_cut_1 : decode cX5_cut 1 = .ok (.dup, 1) := by decide +kernel
theorem dX5_cut_2 : decode cX5_cut 2 = .ok (.getfield 109, 3) := by decide +kernel
theorem dX5_cut_5 : decode cX5_cut 5 = .ok (.iconst 1, 1) := by decide +kernel
theorem dX5_cut_6 : decode cX5_cut 6 = .ok (.isub, 1) := by decide +kernel
theorem dX5_cut_7 : decode cX5_cut 7 = .ok (.putfield 109, 3) := by decide +kernel
theorem dX5_cut_10 : decode cX5_cut 10 = .ok (.iload_n 1, 1) := by decide +kernel
theorem dX5_cut_11 : decode cX5_cut 11 = .ok (.istore_n 2, 1) := by decide +kernel
theorem dX5_cut_12 : decode cX5_cut 12 = .ok (.iload_n 2, 1) := by decide +kernel
theorem dX5_cut_13 : decode cX5_cut 13 = .ok (.aload_n 0, 1) := by decide +kernel
theorem dX5_cut_14 : decode cX5_cut 14 = .ok (.getfield 109, 3) := by decide +kernel
theorem dX5_cut_17 : decode cX5_cut 17 = .ok (.if_icmp .ge 37, 3) := by decide +kernel
theorem dX5_cut_20 : decode cX5_cut 20 = .ok (.aload_n 0, 1) := by decide +kernel
theorem dX5_cut_21 : decode cX5_cut 21 = .ok (.getfield 25, 3) := by decide +kernel
theorem dX5_cut_24 : decode cX5_cut 24 = .ok (.iload_n 2, 1) := by decide +kernel
theorem dX5_cut_25 : decode cX5_cut 25 = .ok (.aload_n 0, 1) := by decide +kernel
theorem dX5_cut_26 : decode cX5_cut 26 = .ok (.getfield 25, 3) := by decide +kernel
theorem dX5_cut_29 : decode cX5_cut 29 = .ok (.iload_n 2, 1) := by decide +kernel
theorem dX5_cut_30 : decode cX5_cut 30 = .ok (.iconst 1, 1) := by decide +kernel
theorem dX5_cut_31 : decode cX5_cut 31 = .ok (.iadd, 1) := by decide +kernel
theorem dX5_cut_32 : decode cX5_cut 32 = .ok (.iaload, 1) := by decide +kernel
theorem dX5_cut_33 : decode cX5_cut 33 = .ok (.iastore, 1) := by decide +kernel
theorem dX5_cut_34 : decode cX5_cut 34 = .ok (.aload_n 0, 1) := by decide +kernel
theorem dX5_cut_35 : decode cX5_cut 35 = .ok (.getfield 28, 3) := by decide +kernel
theorem dX5_cut_38 : decode cX5_cut 38 = .ok (.iload_n 2, 1) := by decide +kernel
theorem dX5_cut_39 : decode cX5_cut 39 = .ok (.aload_n 0, 1) := by decide +kernel
theorem dX5_cut_40 : decode cX5_cut 40 = .ok (.getfield 28, 3) := by decide +kernel
theorem dX5_cut_43 : decode cX5_cut 43 = .ok (.iload_n 2, 1) := by decide +kernel
theorem dX5_cut_44 : decode cX5_cut 44 = .ok (.iconst 1, 1) := by decide +kernel
theorem dX5_cut_45 : decode cX5_cut 45 = .ok (.iadd, 1) := by decide +kernel
theorem dX5_cut_46 : decode cX5_cut 46 = .ok (.iaload, 1) := by decide +kernel
theorem dX5_cut_47 : decode cX5_cut 47 = .ok (.iastore, 1) := by decide +kernel
theorem dX5_cut_48 : decode cX5_cut 48 = .ok (.iinc 2 1, 3) := by decide +kernel
theorem dX5_cut_51 : decode cX5_cut 51 = .ok (.goto (-39), 3) := by decide +kernel
theorem dX5_cut_54 : decode cX5_cut 54 = .ok (.return_, 1) := by decide +kernel
theorem dX5_make_0 : decode cX5_make 0 = .ok (.aload_n 0, 1) := by decide +kernel
theorem dX5_make_1 : decode cX5_make 1 = .ok (.getfield 109, 3) := by decide +kernel
theorem dX5_make_4 : decode cX5_make 4 = .ok (.istore 4, 2) := by decide +kernel
theorem dX5_make_6 : decode cX5_make 6 = .ok (.iload 4, 2) := by decide +kernel
theorem dX5_make_8 : decode cX5_make 8 = .ok (.iload_n 1, 1) := by decide +kernel
theorem dX5_make_9 : decode cX5_make 9 = .ok (.if_icmp .le 41, 3) := by decide +kernel
theorem dX5_make_12 : decode cX5_make 12 = .ok (.aload_n 0, 1) := by decide +kernel
theorem dX5_make_13 : decode cX5_make 13 = .ok (.getfield 25, 3) := by decide +kernel
theorem dX5_make_16 : decode cX5_make 16 = .ok (.iload 4, 2) := by decide +kernel
theorem dX5_make_18 : decode cX5_make 18 = .ok (.aload_n 0, 1) := by decide +kernel
theorem dX5_make_19 : decode cX5_make 19 = .ok (.getfield 25, 3) := by decide +kernel
theorem dX5_make_22 : decode cX5_make 22 = .ok (.iload 4, 2) := by decide +kernel
theorem dX5_make_24 : decode cX5_make 24 = .ok (.iconst 1, 1) := by decide +kernel
theorem dX5_make_25 : decode cX5_make 25 = .ok (.isub, 1) := by decide +kernel
theorem dX5_make_26 : decode cX5_make 26 = .ok (.iaload, 1) := by decide +kernel
theorem dX5_make_27 : decode cX5_make 27 = .ok (.iastore, 1) := by decide +kernel
theorem dX5_make_28 : decode cX5_make 28 = .ok (.aload_n 0, 1) := by decide +kernel
theorem dX5_make_29 : decode cX5_make 29 = .ok (.getfield 28, 3) := by decide +kernel
theorem dX5_make_32 : decode cX5_make 32 = .ok (.iload 4, 2) := by decide +kernel
theorem dX5_make_34 : decode cX5_make 34 = .ok (.aload_n 0, 1) := by decide +kernel
theorem dX5_make_35 : decode cX5_make 35 = .ok (.getfield 28, 3) := by decide +kernel
theorem dX5_make_38 : decode cX5_make 38 = .ok (.iload 4, 2) := by decide +kernel
theorem dX5_make_40 : decode cX5_make 40 = .ok (.iconst 1, 1) := by decide +kernel
theorem dX5_make_41 : decode cX5_make 41 = .ok (.isub, 1) := by decide +kernel
theorem dX5_make_42 : decode cX5_make 42 = .ok (.iaload, 1) := by decide +kernel
theorem dX5_make_43 : decode cX5_make 43 = .ok (.iastore, 1) := by decide +kernel
theorem dX5_make_44 : decode cX5_make 44 = .ok (.iinc 4 (-1), 3) := by decide +kernel
theorem dX5_make_47 : decode cX5_make 47 = .ok (.goto (-41), 3) := by decide +kernel
theorem dX5_make_50 : decode cX5_make 50 = .ok (.aload_n 0, 1) := by decide +kernel
theorem dX5_make_51 : decode cX5_make 51 = .ok (.getfield 25, 3) := by decide +kernel
theorem dX5_make_54 : decode cX5_make 54 = .ok (.iload_n 1, 1) := by decide +kernel
theorem dX5_make_55 : decode cX5_make 55 = .ok (.iload_n 2, 1) := by decide +kernel
theorem dX5_make_56 : decode cX5_make 56 = .ok (.iastore, 1) := by decide +kernel
theorem dX5_make_57 : decode cX5_make 57 = .ok (.aload_n 0, 1) := by decide +kernel
theorem dX5_make_58 : decode cX5_make 58 = .ok (.getfield 28, 3) := by decide +kernel
theorem dX5_make_61 : decode cX5_make 61 = .ok (.iload_n 1, 1) := by decide +kernel
theorem dX5_make_62 : decode cX5_make 62 = .ok (.iload_n 3, 1) := by decide +kernel
theorem dX5_make_63 : decode cX5_make 63 = .ok (.iastore, 1) := by decide +kernel
theorem dX5_make_64 : decode cX5_make 64 = .ok (.aload_n 0, 1) := by decide +kernel
theorem dX5_make_65 : decode cX5_make 65 = .ok (.dup, 1) := by decide +kernel
theorem dX5_make_66 : decode cX5_make 66 = .ok (.getfield 109, 3) := by decide +kernel
theorem dX5_make_69 : decode cX5_make 69 = .ok (.iconst 1, 1) := by decide +kernel
theorem dX5_make_70 : decode cX5_make 70 = .ok (.iadd, 1) := by decide +kernel
theorem dX5_make_71 : decode cX5_make 71 = .ok (.putfield 109, 3) := by decide +kernel
theorem dX5_make_74 : decode cX5_make 74 = .ok (.return_, 1) := by decide +kernel
set_option maxRecDepth 20000 in
theorem ggX5_turns_X5_placeOf : GoodIn wsX5_turns wsX5_placeOf := goodIn_r _ [6, 1, 7, 8, 17, 18, 19, 20, 21, 22, 23, 24, 25, 26, 27, 28, 29, 30, 31, 32, 33, 34, 35, 36, 37, 38, 39, 40] (by decide +kernel) (by decide +kernel)
set_option maxRecDepth 20000 in
theorem gX5_turns_X5_placeOf : GoodIn wsX5_turns (wsV RX5 160 RX5 yX5_placeOf wsX5_placeOf) := goodIn_app (goodIn_of _ (by decide +kernel)) ggX5_turns_X5_placeOf
set_option maxRecDepth 20000 in
theorem ggX5_turns_X5_cut : GoodIn wsX5_turns wsX5_cut := goodIn_r _ [12, 1, 7, 8, 17, 18, 19, 20, 21, 22, 23, 24, 25, 26, 27, 28, 29, 30, 31, 32, 33, 34, 35, 36, 37, 38, 39, 40] (by decide +kernel) (by decide +kernel)
set_option maxRecDepth 20000 in
theorem gX5_turns_X5_cut : GoodIn wsX5_turns (wsV RX5 163 RX5 yX5_cut wsX5_cut) := goodIn_app (goodIn_of _ (by decide +kernel)) ggX5_turns_X5_cut
set_option maxRecDepth 20000 in
theorem ggX5_turns_X5_make : GoodIn wsX5_turns wsX5_make := goodIn_r _ [16, 1, 7, 8, 17, 18, 19, 20, 21, 22, 23, 24, 25, 26, 27, 28, 29, 30, 31, 32, 33, 34, 35, 36, 37, 38, 39, 40] (by decide +kernel) (by decide +kernel)
set_option maxRecDepth 20000 in
theorem gX5_turns_X5_make : GoodIn wsX5_turns (wsV RX5 167 RX5 yX5_make wsX5_make) := goodIn_app (goodIn_of _ (by decide +kernel)) ggX5_turns_X5_make
theorem dX5_turns_0 : decode cX5_turns 0 = .ok (.aload_n 0, 1) := by decide +kernel
theorem dX5_turns_1 : decode cX5_turns 1 = .ok (.iload_n 1, 1) := by decide +kernel
theorem dX5_turns_2 : decode cX5_turns 2 = .ok (.iload_n 2, 1) := by decide +kernel
theorem dX5_turns_3 : decode cX5_turns 3 = .ok (.invokevirtual 160, 3) := by decide +kernel
theorem dX5_turns_6 : decode cX5_turns 6 = .ok (.istore_n 3, 1) := by decide +kernel
theorem dX5_turns_7 : decode cX5_turns 7 = .ok (.iload_n 3, 1) := by decide +kernel
theorem dX5_turns_8 : decode cX5_turns 8 = .ok (.bipush (-9), 2) := by decide +kernel
theorem dX5_turns_10 : decode cX5_turns 10 = .ok (.if_icmp .eq 10, 3) := by decide +kernel
theorem dX5_turns_13 : decode cX5_turns 13 = .ok (.aload_n 0, 1) := by decide +kernel
theorem dX5_turns_14 : decode cX5_turns 14 = .ok (.iload_n 3, 1) := by decide +kernel
theorem dX5_turns_15 : decode cX5_turns 15 = .ok (.invokevirtual 163, 3) := by decide +kernel
theorem dX5_turns_18 : decode cX5_turns 18 = .ok (.iconst 1, 1) := by decide +kernel
theorem dX5_turns_19 : decode cX5_turns 19 = .ok (.ireturn, 1) := by decide +kernel
theorem dX5_turns_20 : decode cX5_turns 20 = .ok (.aload_n 0, 1) := by decide +kernel
theorem dX5_turns_21 : decode cX5_turns 21 = .ok (.getfield 109, 3) := by decide +kernel
theorem dX5_turns_24 : decode cX5_turns 24 = .ok (.bipush 12, 2) := by decide +kernel
theorem dX5_turns_26 : decode cX5_turns 26 = .ok (.if_icmp .ne 5, 3) := by decide +kernel
theorem dX5_turns_29 : decode cX5_turns 29 = .ok (.iconst 0, 1) := by decide +kernel
theorem dX5_turns_30 : decode cX5_turns 30 = .ok (.ireturn, 1) := by decide +kernel
theorem dX5_turns_31 : decode cX5_turns 31 = .ok (.aload_n 0, 1) := by decide +kernel
theorem dX5_turns_32 : decode cX5_turns 32 = .ok (.aload_n 0, 1) := by decide +kernel
theorem dX5_turns_33 : decode cX5_turns 33 = .ok (.getfield 109, 3) := by decide +kernel
theorem dX5_turns_36 : decode cX5_turns 36 = .ok (.iload_n 1, 1) := by decide +kernel
theorem dX5_turns_37 : decode cX5_turns 37 = .ok (.iload_n 2, 1) := by decide +kernel
theorem dX5_turns_38 : decode cX5_turns 38 = .ok (.invokevirtual 167, 3) := by decide +kernel
theorem dX5_turns_41 : decode cX5_turns 41 = .ok (.iconst 1, 1) := by decide +kernel
theorem dX5_turns_42 : decode cX5_turns 42 = .ok (.ireturn, 1) := by decide +kernel
set_option maxRecDepth 20000 in
theorem ggX5_refer_X5_isWho : GoodIn wsX5_refer wsX5_isWho := goodIn_r _ [6, 7, 8, 9, 10, 5, 11, 30, 31, 32, 33, 34, 35, 36, 37, 38, 39, 40, 41, 42, 43, 44, 45, 46, 47, 48, 49, 50, 51, 52, 53] (by decide +kernel) (by decide +kernel)
set_option maxRecDepth 20000 in
theorem gX5_refer_X5_isWho : GoodIn wsX5_refer (wsV RX5 157 RX5 yX5_isWho wsX5_isWho) := goodIn_app (goodIn_of _ (by decide +kernel)) ggX5_refer_X5_isWho
set_option maxRecDepth 20000 in
theorem ggX5_refer_X5_isThing : GoodIn wsX5_refer wsX5_isThing := goodIn_r _ [11, 7, 30, 31, 32, 33, 34, 35, 36, 37, 38, 39, 40, 41, 42, 43, 44, 45, 46, 47, 48, 49, 50, 51, 52, 53] (by decide +kernel) (by decide +kernel)
set_option maxRecDepth 20000 in
theorem gX5_refer_X5_isThing : GoodIn wsX5_refer (wsV RX5 71 RX5 yX5_isThing wsX5_isThing) := goodIn_app (goodIn_of _ (by decide +kernel)) ggX5_refer_X5_isThing
set_option maxRecDepth 20000 in
theorem ggX5_refer_X5_turns : GoodIn wsX5_refer wsX5_turns := goodIn_r _ [15, 1, 16, 17, 18, 5, 19, 20, 21, 22, 23, 24, 25, 26, 27, 28, 29, 30, 31, 32, 33, 34, 35, 36, 37, 38, 39, 40, 41, 42, 43, 44, 45, 46, 47, 48, 49, 50, 51, 52, 53] (by decide +kernel) (by decide +kernel)
set_option maxRecDepth 20000 in
theorem gX5_refer_X5_turns : GoodIn wsX5_refer (wsV RX5 171 RX5 yX5_turns wsX5_turns) := goodIn_app (goodIn_of _ (by decide +kernel)) ggX5_refer_X5_turns
theorem dX5_refer_0 : decode cX5_refer 0 = .ok (.aload_n 0, 1) := by decide +kernel
theorem dX5_refer_1 : decode cX5_refer 1 = .ok (.iload_n 1, 1) := by decide +kernel
theorem dX5_refer_2 : decode cX5_refer 2 = .ok (.invokevirtual 157, 3) := by decide +kernel
theorem dX5_refer_5 : decode cX5_refer 5 = .ok (.ifCond .eq 16, 3) := by decide +kernel
theorem dX5_refer_8 : decode cX5_refer 8 = .ok (.aload_n 0, 1) := by decide +kernel
theorem dX5_refer_9 : decode cX5_refer 9 = .ok (.iload_n 2, 1) := by decide +kernel
theorem dX5_refer_10 : decode cX5_refer 10 = .ok (.invokevirtual 71, 3) := by decide +kernel
theorem dX5_refer_13 : decode cX5_refer 13 = .ok (.ifCond .eq 8, 3) := by decide +kernel
theorem dX5_refer_16 : decode cX5_refer 16 = .ok (.iload_n 1, 1) := by decide +kernel
theorem dX5_refer_17 : decode cX5_refer 17 = .ok (.iload_n 2, 1) := by decide +kernel
theorem dX5_refer_18 : decode cX5_refer 18 = .ok (.if_icmp .ne 5, 3) := by decide +kernel
theorem dX5_refer_21 : decode cX5_refer 21 = .ok (.iconst (-1), 1) := by decide +kernel
theorem dX5_refer_22 : decode cX5_refer 22 = .ok (.ireturn, 1) := by decide +kernel
theorem dX5_refer_23 : decode cX5_refer 23 = .ok (.aload_n 0, 1) := by decide +kernel
theorem dX5_refer_24 : decode cX5_refer 24 = .ok (.iload_n 1, 1) := by decide +kernel
theorem dX5_refer_25 : decode cX5_refer 25 = .ok (.iload_n 2, 1) := by decide +kernel
theorem dX5_refer_26 : decode cX5_refer 26 = .ok (.invokevirtual 171, 3) := by decide +kernel
theorem dX5_refer_29 : decode cX5_refer 29 = .ok (.ifCond .eq 10, 3) := by decide +kernel
theorem dX5_refer_32 : decode cX5_refer 32 = .ok (.aload_n 0, 1) := by decide +kernel
theorem dX5_refer_33 : decode cX5_refer 33 = .ok (.getfield 109, 3) := by decide +kernel
theorem dX5_refer_36 : decode cX5_refer 36 = .ok (.goto 5, 3) := by decide +kernel
theorem dX5_refer_39 : decode cX5_refer 39 = .ok (.bipush (-4), 2) := by decide +kernel
theorem dX5_refer_41 : decode cX5_refer 41 = .ok (.ireturn, 1) := by decide +kernel
set_option maxRecDepth 20000 in
theorem ggX5_canOwn_X5_isUnder : GoodIn wsX5_canOwn wsX5_isUnder := goodIn_r _ [5, 6, 7, 8, 9, 10, 11, 12, 13, 14, 15, 16, 17, 18, 19, 20, 21, 22, 23, 24, 25, 26, 27, 28, 29, 30] (by decide +kernel) (by decide +kernel)
set_option maxRecDepth 20000 in
theorem gX5_canOwn_X5_isUnder : GoodIn wsX5_canOwn (wsV RX5 174 RX5 yX5_isUnder wsX5_isUnder) := goodIn_app (goodIn_of _ (by decide +kernel)) ggX5_canOwn_X5_isUnder
theorem dX5_canOwn_0 : decode cX5_canOwn 0 = .ok (.iload_n 2, 1) := by decide +kernel
theorem dX5_canOwn_1 : decode cX5_canOwn 1 = .ok (.bipush 6, 2) := by decide +kernel
theorem dX5_canOwn_3 : decode cX5_canOwn 3 = .ok (.if_icmp .eq 17, 3) := by decide +kernel
theorem dX5_canOwn_6 : decode cX5_canOwn 6 = .ok (.iload_n 2, 1) := by decide +kernel
theorem dX5_canOwn_7 : decode cX5_canOwn 7 = .ok (.iload_n 1, 1) := by decide +kernel
theorem dX5_canOwn_8 : decode cX5_canOwn 8 = .ok (.if_icmp .eq 16, 3) := by decide +kernel
theorem dX5_canOwn_11 : decode cX5_canOwn 11 = .ok (.aload_n 0, 1) := by decide +kernel
theorem dX5_canOwn_12 : decode cX5_canOwn 12 = .ok (.iload_n 2, 1) := by decide +kernel
theorem dX5_canOwn_13 : decode cX5_canOwn 13 = .ok (.iload_n 1, 1) := by decide +kernel
theorem dX5_canOwn_14 : decode cX5_canOwn 14 = .ok (.invokevirtual 174, 3) := by decide +kernel
theorem dX5_canOwn_17 : decode cX5_canOwn 17 = .ok (.ifCond .ne 7, 3) := by decide +kernel
theorem dX5_canOwn_20 : decode cX5_canOwn 20 = .ok (.iconst 1, 1) := by decide +kernel
theorem dX5_canOwn_21 : decode cX5_canOwn 21 = .ok (.goto 4, 3) := by decide +kernel
theorem dX5_canOwn_24 : decode cX5_canOwn 24 = .ok (.iconst 0, 1) := by decide +kernel
theorem dX5_canOwn_25 : decode cX5_canOwn 25 = .ok (.ireturn, 1) := by decide +kernel
set_option maxRecDepth 20000 in
theorem ggX5_own_X5_isThing : GoodIn wsX5_own wsX5_isThing := goodIn_r _ [6, 7, 20, 21, 22, 23, 24, 25, 26, 27, 28, 29, 30, 31, 32, 33, 34, 35, 36, 37, 38, 39, 40, 41, 42, 43] (by decide +kernel) (by decide +kernel)
set_option maxRecDepth 20000 in
theorem gX5_own_X5_isThing : GoodIn wsX5_own (wsV RX5 71 RX5 yX5_isThing wsX5_isThing) := goodIn_app (goodIn_of _ (by decide +kernel)) ggX5_own_X5_isThing
set_option maxRecDepth 20000 in
theorem ggX5_own_X5_isWho : GoodIn wsX5_own wsX5_isWho := goodIn_r _ [11, 7, 2, 3, 4, 5, 6, 20, 21, 22, 23, 24, 25, 26, 27, 28, 29, 30, 31, 32, 33, 34, 35, 36, 37, 38, 39, 40, 41, 42, 43] (by decide +kernel) (by decide +kernel)
set_option maxRecDepth 20000 in
theorem gX5_own_X5_isWho : GoodIn wsX5_own (wsV RX5 157 RX5 yX5_isWho wsX5_isWho) := goodIn_app (goodIn_of _ (by decide +kernel)) ggX5_own_X5_isWho
set_option maxRecDepth 20000 in
theorem ggX5_own_X5_canOwn : GoodIn wsX5_own wsX5_canOwn := goodIn_r _ [15, 16, 17, 18, 5, 19, 1, 20, 21, 22, 23, 24, 25, 26, 27, 28, 29, 30, 31, 32, 33, 34, 35, 36, 37, 38, 39, 40, 41, 42, 43] (by decide +kernel) (by decide +kernel)
set_option maxRecDepth 20000 in
theorem gX5_own_X5_canOwn : GoodIn wsX5_own (wsV RX5 177 RX5 yX5_canOwn wsX5_canOwn) := goodIn_app (goodIn_of _ (by decide +kernel)) ggX5_own_X5_canOwn
theorem dX5_own_0 : decode cX5_own 0 = .ok (.aload_n 0, 1) := by decide +kernel
theorem dX5_own_1 : decode cX5_own 1 = .ok (.iload_n 1, 1) := by decide +kernel
theorem dX5_own_2 : decode cX5_own 2 = .ok (.invokevirtual 71, 3) := by decide +kernel
theorem dX5_own_5 : decode cX5_own 5 = .ok (.ifCond .eq 16, 3) := by decide +kernel
theorem dX5_own_8 : decode cX5_own 8 = .ok (.aload_n 0, 1) := by decide +kernel
theorem dX5_own_9 : decode cX5_own 9 = .ok (.iload_n 2, 1) := by decide +kernel
theorem dX5_own_10 : decode cX5_own 10 = .ok (.invokevirtual 157, 3) := by decide +kernel
theorem dX5_own_13 : decode cX5_own 13 = .ok (.ifCond .eq 8, 3) := by decide +kernel
theorem dX5_own_16 : decode cX5_own 16 = .ok (.iload_n 1, 1) := by decide +kernel
theorem dX5_own_17 : decode cX5_own 17 = .ok (.iload_n 2, 1) := by decide +kernel
theorem dX5_own_18 : decode cX5_own 18 = .ok (.if_icmp .ne 5, 3) := by decide +kernel
theorem dX5_own_21 : decode cX5_own 21 = .ok (.iconst (-1), 1) := by decide +kernel
theorem dX5_own_22 : decode cX5_own 22 = .ok (.ireturn, 1) := by decide +kernel
theorem dX5_own_23 : decode cX5_own 23 = .ok (.aload_n 0, 1) := by decide +kernel
theorem dX5_own_24 : decode cX5_own 24 = .ok (.iload_n 1, 1) := by decide +kernel
theorem dX5_own_25 : decode cX5_own 25 = .ok (.iload_n 2, 1) := by decide +kernel
theorem dX5_own_26 : decode cX5_own 26 = .ok (.invokevirtual 177, 3) := by decide +kernel
theorem dX5_own_29 : decode cX5_own 29 = .ok (.ifCond .ne 6, 3) := by decide +kernel
theorem dX5_own_32 : decode cX5_own 32 = .ok (.bipush (-3), 2) := by decide +kernel
theorem dX5_own_34 : decode cX5_own 34 = .ok (.ireturn, 1) := by decide +kernel
theorem dX5_own_35 : decode cX5_own 35 = .ok (.aload_n 0, 1) := by decide +kernel
theorem dX5_own_36 : decode cX5_own 36 = .ok (.getfield 22, 3) := by decide +kernel
theorem dX5_own_39 : decode cX5_own 39 = .ok (.iload_n 1, 1) := by decide +kernel
theorem dX5_own_40 : decode cX5_own 40 = .ok (.iaload, 1) := by decide +kernel
theorem dX5_own_41 : decode cX5_own 41 = .ok (.istore_n 3, 1) := by decide +kernel
theorem dX5_own_42 : decode cX5_own 42 = .ok (.aload_n 0, 1) := by decide +kernel
theorem dX5_own_43 : decode cX5_own 43 = .ok (.getfield 22, 3) := by decide +kernel
theorem dX5_own_46 : decode cX5_own 46 = .ok (.iload_n 1, 1) := by decide +kernel
theorem dX5_own_47 : decode cX5_own 47 = .ok (.iload_n 2, 1) := by decide +kernel
theorem dX5_own_48 : decode cX5_own 48 = .ok (.iastore, 1) := by decide +kernel
theorem dX5_own_49 : decode cX5_own 49 = .ok (.iload_n 3, 1) := by decide +kernel
theorem dX5_own_50 : decode cX5_own 50 = .ok (.ireturn, 1) := by decide +kernel
set_option maxRecDepth 20000 in
theorem ggX5_handedBy_X5_isUnder : GoodIn wsX5_handedBy wsX5_isUnder := goodIn_r _ [8, 9, 10, 11, 12, 13, 14, 15, 16, 17, 18, 19, 20, 21, 22, 23, 24, 25, 26, 27, 28, 29, 30, 31, 32, 33] (by decide +kernel) (by decide +kernel)
set_option maxRecDepth 20000 in
theorem gX5_handedBy_X5_isUnder : GoodIn wsX5_handedBy (wsV RX5 174 RX5 yX5_isUnder wsX5_isUnder) := goodIn_app (goodIn_of _ (by decide +kernel)) ggX5_handedBy_X5_isUnder
theorem dX5_handedBy_0 : decode cX5_handedBy 0 = .ok (.bipush (-9), 2) := by decide +kernel
theorem dX5_handedBy_2 : decode cX5_handedBy 2 = .ok (.istore_n 3, 1) := by decide +kernel
theorem dX5_handedBy_3 : decode cX5_handedBy 3 = .ok (.iconst 0, 1) := by decide +kernel
theorem dX5_handedBy_4 : decode cX5_handedBy 4 = .ok (.istore 4, 2) := by decide +kernel
theorem dX5_handedBy_6 : decode cX5_handedBy 6 = .ok (.iconst 0, 1) := by decide +kernel
theorem dX5_handedBy_7 : decode cX5_handedBy 7 = .ok (.istore 5, 2) := by decide +kernel
theorem dX5_handedBy_9 : decode cX5_handedBy 9 = .ok (.iload 5, 2) := by decide +kernel
theorem dX5_handedBy_11 : decode cX5_handedBy 11 = .ok (.aload_n 0, 1) := by decide +kernel
theorem dX5_handedBy_12 : decode cX5_handedBy 12 = .ok (.getfield 109, 3) := by decide +kernel
theorem dX5_handedBy_15 : decode cX5_handedBy 15 = .ok (.if_icmp .ge 48, 3) := by decide +kernel
theorem dX5_handedBy_18 : decode cX5_handedBy 18 = .ok (.aload_n 0, 1) := by decide +kernel
theorem dX5_handedBy_19 : decode cX5_handedBy 19 = .ok (.getfield 28, 3) := by decide +kernel
theorem dX5_handedBy_22 : decode cX5_handedBy 22 = .ok (.iload 5, 2) := by decide +kernel
theorem dX5_handedBy_24 : decode cX5_handedBy 24 = .ok (.iaload, 1) := by decide +kernel
theorem dX5_handedBy_25 : decode cX5_handedBy 25 = .ok (.iload_n 1, 1) := by decide +kernel
theorem dX5_handedBy_26 : decode cX5_handedBy 26 = .ok (.if_icmp .ne 8, 3) := by decide +kernel
theorem dX5_handedBy_29 : decode cX5_handedBy 29 = .ok (.iload 5, 2) := by decide +kernel
theorem dX5_handedBy_31 : decode cX5_handedBy 31 = .ok (.goto 4, 3) := by decide +kernel
theorem dX5_handedBy_34 : decode cX5_handedBy 34 = .ok (.iload_n 3, 1) := by decide +kernel
theorem dX5_handedBy_35 : decode cX5_handedBy 35 = .ok (.istore_n 3, 1) := by decide +kernel
theorem dX5_handedBy_36 : decode cX5_handedBy 36 = .ok (.iload 4, 2) := by decide +kernel
theorem dX5_handedBy_38 : decode cX5_handedBy 38 = .ok (.aload_n 0, 1) := by decide +kernel
theorem dX5_handedBy_39 : decode cX5_handedBy 39 = .ok (.getfield 28, 3) := by decide +kernel
theorem dX5_handedBy_42 : decode cX5_handedBy 42 = .ok (.iload 5, 2) := by decide +kernel
theorem dX5_handedBy_44 : decode cX5_handedBy 44 = .ok (.iaload, 1) := by decide +kernel
theorem dX5_handedBy_45 : decode cX5_handedBy 45 = .ok (.iload_n 1, 1) := by decide +kernel
theorem dX5_handedBy_46 : decode cX5_handedBy 46 = .ok (.if_icmp .ne 7, 3) := by decide +kernel
theorem dX5_handedBy_49 : decode cX5_handedBy 49 = .ok (.iconst 1, 1) := by decide +kernel
theorem dX5_handedBy_50 : decode cX5_handedBy 50 = .ok (.goto 4, 3) := by decide +kernel
theorem dX5_handedBy_53 : decode cX5_handedBy 53 = .ok (.iconst 0, 1) := by decide +kernel
theorem dX5_handedBy_54 : decode cX5_handedBy 54 = .ok (.iadd, 1) := by decide +kernel
theorem dX5_handedBy_55 : decode cX5_handedBy 55 = .ok (.istore 4, 2) := by decide +kernel
theorem dX5_handedBy_57 : decode cX5_handedBy 57 = .ok (.iinc 5 1, 3) := by decide +kernel
theorem dX5_handedBy_60 : decode cX5_handedBy 60 = .ok (.goto (-51), 3) := by decide +kernel
theorem dX5_handedBy_63 : decode cX5_handedBy 63 = .ok (.aload_n 0, 1) := by decide +kernel
theorem dX5_handedBy_64 : decode cX5_handedBy 64 = .ok (.iload_n 2, 1) := by decide +kernel
theorem dX5_handedBy_65 : decode cX5_handedBy 65 = .ok (.iload_n 1, 1) := by decide +kernel
theorem dX5_handedBy_66 : decode cX5_handedBy 66 = .ok (.invokevirtual 174, 3) := by decide +kernel
theorem dX5_handedBy_69 : decode cX5_handedBy 69 = .ok (.ifCond .ne 19, 3) := by decide +kernel
theorem dX5_handedBy_72 : decode cX5_handedBy 72 = .ok (.iload 4, 2) := by decide +kernel
theorem dX5_handedBy_74 : decode cX5_handedBy 74 = .ok (.iconst 1, 1) := by decide +kernel
theorem dX5_handedBy_75 : decode cX5_handedBy 75 = .ok (.if_icmp .ne 13, 3) := by decide +kernel
theorem dX5_handedBy_78 : decode cX5_handedBy 78 = .ok (.aload_n 0, 1) := by decide +kernel
theorem dX5_handedBy_79 : decode cX5_handedBy 79 = .ok (.getfield 25, 3) := by decide +kernel
theorem dX5_handedBy_82 : decode cX5_handedBy 82 = .ok (.iload_n 3, 1) := by decide +kernel
theorem dX5_handedBy_83 : decode cX5_handedBy 83 = .ok (.iaload, 1) := by decide +kernel
theorem dX5_handedBy_84 : decode cX5_handedBy 84 = .ok (.iload_n 2, 1) := by decide +kernel
theorem dX5_handedBy_85 : decode cX5_handedBy 85 = .ok (.if_icmp .ne 8, 3) := by decide +kernel
theorem dX5_handedBy_88 : decode cX5_handedBy 88 = .ok (.bipush (-9), 2) := by decide +kernel
theorem dX5_handedBy_90 : decode cX5_handedBy 90 = .ok (.goto 4, 3) := by decide +kernel
theorem dX5_handedBy_93 : decode cX5_handedBy 93 = .ok (.iload_n 3, 1) := by decide +kernel
theorem dX5_handedBy_94 : decode cX5_handedBy 94 = .ok (.ireturn, 1) := by decide +kernel
set_option maxRecDepth 20000 in
theorem ggX5_hand_X5_isThing : GoodIn wsX5_hand wsX5_isThing := goodIn_r _ [7, 8, 19, 20, 21, 22, 23, 24, 25, 26, 27, 28, 29, 30, 31, 32, 33, 34, 35, 36, 37, 38, 39, 40, 41, 42] (by decide +kernel) (by decide +kernel)
set_option maxRecDepth 20000 in
theorem gX5_hand_X5_isThing : GoodIn wsX5_hand (wsV RX5 71 RX5 yX5_isThing wsX5_isThing) := goodIn_app (goodIn_of _ (by decide +kernel)) ggX5_hand_X5_isThing
set_option maxRecDepth 20000 in
theorem ggX5_hand_X5_handedBy : GoodIn wsX5_hand wsX5_handedBy := goodIn_r _ [12, 13, 14, 1, 15, 16, 17, 6, 18, 2, 19, 20, 21, 22, 23, 24, 25, 26, 27, 28, 29, 30, 31, 32, 33, 34, 35, 36, 37, 38, 39, 40, 41, 42] (by decide +kernel) (by decide +kernel)
set_option maxRecDepth 20000 in
theorem gX5_hand_X5_handedBy : GoodIn wsX5_hand (wsV RX5 180 RX5 yX5_handedBy wsX5_handedBy) := goodIn_app (goodIn_of _ (by decide +kernel)) ggX5_hand_X5_handedBy
theorem dX5_hand_0 : decode cX5_hand 0 = .ok (.aload_n 0, 1) := by decide +kernel
theorem dX5_hand_1 : decode cX5_hand 1 = .ok (.iload_n 1, 1) := by decide +kernel
theorem dX5_hand_2 : decode cX5_hand 2 = .ok (.invokevirtual 71, 3) := by decide +kernel
theorem dX5_hand_5 : decode cX5_hand 5 = .ok (.ifCond .eq 16, 3) := by decide +kernel
theorem dX5_hand_8 : decode cX5_hand 8 = .ok (.aload_n 0, 1) := by decide +kernel
theorem dX5_hand_9 : decode cX5_hand 9 = .ok (.iload_n 2, 1) := by decide +kernel
theorem dX5_hand_10 : decode cX5_hand 10 = .ok (.invokevirtual 71, 3) := by decide +kernel
theorem dX5_hand_13 : decode cX5_hand 13 = .ok (.ifCond .eq 8, 3) := by decide +kernel
theorem dX5_hand_16 : decode cX5_hand 16 = .ok (.iload_n 1, 1) := by decide +kernel
theorem dX5_hand_17 : decode cX5_hand 17 = .ok (.iload_n 2, 1) := by decide +kernel
theorem dX5_hand_18 : decode cX5_hand 18 = .ok (.if_icmp .ne 5, 3) := by decide +kernel
theorem dX5_hand_21 : decode cX5_hand 21 = .ok (.iconst (-1), 1) := by decide +kernel
theorem dX5_hand_22 : decode cX5_hand 22 = .ok (.ireturn, 1) := by decide +kernel
theorem dX5_hand_23 : decode cX5_hand 23 = .ok (.aload_n 0, 1) := by decide +kernel
theorem dX5_hand_24 : decode cX5_hand 24 = .ok (.iload_n 1, 1) := by decide +kernel
theorem dX5_hand_25 : decode cX5_hand 25 = .ok (.iload_n 2, 1) := by decide +kernel
theorem dX5_hand_26 : decode cX5_hand 26 = .ok (.invokevirtual 180, 3) := by decide +kernel
theorem dX5_hand_29 : decode cX5_hand 29 = .ok (.istore_n 3, 1) := by decide +kernel
theorem dX5_hand_30 : decode cX5_hand 30 = .ok (.iload_n 3, 1) := by decide +kernel
theorem dX5_hand_31 : decode cX5_hand 31 = .ok (.bipush (-9), 2) := by decide +kernel
theorem dX5_hand_33 : decode cX5_hand 33 = .ok (.if_icmp .ne 6, 3) := by decide +kernel
theorem dX5_hand_36 : decode cX5_hand 36 = .ok (.bipush (-3), 2) := by decide +kernel
theorem dX5_hand_38 : decode cX5_hand 38 = .ok (.ireturn, 1) := by decide +kernel
theorem dX5_hand_39 : decode cX5_hand 39 = .ok (.aload_n 0, 1) := by decide +kernel
theorem dX5_hand_40 : decode cX5_hand 40 = .ok (.getfield 25, 3) := by decide +kernel
theorem dX5_hand_43 : decode cX5_hand 43 = .ok (.iload_n 3, 1) := by decide +kernel
theorem dX5_hand_44 : decode cX5_hand 44 = .ok (.iaload, 1) := by decide +kernel
theorem dX5_hand_45 : decode cX5_hand 45 = .ok (.istore 4, 2) := by decide +kernel
theorem dX5_hand_47 : decode cX5_hand 47 = .ok (.aload_n 0, 1) := by decide +kernel
theorem dX5_hand_48 : decode cX5_hand 48 = .ok (.getfield 25, 3) := by decide +kernel
theorem dX5_hand_51 : decode cX5_hand 51 = .ok (.iload_n 3, 1) := by decide +kernel
theorem dX5_hand_52 : decode cX5_hand 52 = .ok (.iload_n 2, 1) := by decide +kernel
theorem dX5_hand_53 : decode cX5_hand 53 = .ok (.iastore, 1) := by decide +kernel
theorem dX5_hand_54 : decode cX5_hand 54 = .ok (.aload_n 0, 1) := by decide +kernel
theorem dX5_hand_55 : decode cX5_hand 55 = .ok (.getfield 22, 3) := by decide +kernel
theorem dX5_hand_58 : decode cX5_hand 58 = .ok (.iload_n 1, 1) := by decide +kernel
theorem dX5_hand_59 : decode cX5_hand 59 = .ok (.iload_n 2, 1) := by decide +kernel
theorem dX5_hand_60 : decode cX5_hand 60 = .ok (.iastore, 1) := by decide +kernel
theorem dX5_hand_61 : decode cX5_hand 61 = .ok (.iload 4, 2) := by decide +kernel
theorem dX5_hand_63 : decode cX5_hand 63 = .ok (.ireturn, 1) := by decide +kernel
theorem dX5_keep_0 : decode cX5_keep 0 = .ok (.aload_n 0, 1) := by decide +kernel
theorem dX5_keep_1 : decode cX5_keep 1 = .ok (.getfield 43, 3) := by decide +kernel
theorem dX5_keep_4 : decode cX5_keep 4 = .ok (.iconst 0, 1) := by decide +kernel
theorem dX5_keep_5 : decode cX5_keep 5 = .ok (.aload_n 0, 1) := by decide +kernel
theorem dX5_keep_6 : decode cX5_keep 6 = .ok (.getfield 109, 3) := by decide +kernel
theorem dX5_keep_9 : decode cX5_keep 9 = .ok (.iastore, 1) := by decide +kernel
theorem dX5_keep_10 : decode cX5_keep 10 = .ok (.iconst 0, 1) := by decide +kernel
theorem dX5_keep_11 : decode cX5_keep 11 = .ok (.istore_n 1, 1) := by decide +kernel
theorem dX5_keep_12 : decode cX5_keep 12 = .ok (.iload_n 1, 1) := by decide +kernel
theorem dX5_keep_13 : decode cX5_keep 13 = .ok (.bipush 12, 2) := by decide +kernel
theorem dX5_keep_15 : decode cX5_keep 15 = .ok (.if_icmp .ge 38, 3) := by decide +kernel
theorem dX5_keep_18 : decode cX5_keep 18 = .ok (.aload_n 0, 1) := by decide +kernel
theorem dX5_keep_19 : decode cX5_keep 19 = .ok (.getfield 43, 3) := by decide +kernel
theorem dX5_keep_22 : decode cX5_keep 22 = .ok (.iconst 1, 1) := by decide +kernel
theorem dX5_keep_23 : decode cX5_keep 23 = .ok (.iload_n 1, 1) := by decide +kernel
theorem dX5_keep_24 : decode cX5_keep 24 = .ok (.iadd, 1) := by decide +kernel
theorem dX5_keep_25 : decode cX5_keep 25 = .ok (.aload_n 0, 1) := by decide +kernel
theorem dX5_keep_26 : decode cX5_keep 26 = .ok (.getfield 25, 3) := by decide +kernel
theorem dX5_keep_29 : decode cX5_keep 29 = .ok (.iload_n 1, 1) := by decide +kernel
theorem dX5_keep_30 : decode cX5_keep 30 = .ok (.iaload, 1) := by decide +kernel
theorem dX5_keep_31 : decode cX5_keep 31 = .ok (.iastore, 1) := by decide +kernel
theorem dX5_keep_32 : decode cX5_keep 32 = .ok (.aload_n 0, 1) := by decide +kernel
theorem dX5_keep_33 : decode cX5_keep 33 = .ok (.getfield 43, 3) := by decide +kernel
theorem dX5_keep_36 : decode cX5_keep 36 = .ok (.bipush 13, 2) := by decide +kernel
theorem dX5_keep_38 : decode cX5_keep 38 = .ok (.iload_n 1, 1) := by decide +kernel
theorem dX5_keep_39 : decode cX5_keep 39 = .ok (.iadd, 1) := by decide +kernel
theorem dX5_keep_40 : decode cX5_keep 40 = .ok (.aload_n 0, 1) := by decide +kernel
theorem dX5_keep_41 : decode cX5_keep 41 = .ok (.getfield 28, 3) := by decide +kernel
theorem dX5_keep_44 : decode cX5_keep 44 = .ok (.iload_n 1, 1) := by decide +kernel
theorem dX5_keep_45 : decode cX5_keep 45 = .ok (.iaload, 1) := by decide +kernel
theorem dX5_keep_46 : decode cX5_keep 46 = .ok (.iastore, 1) := by decide +kernel
theorem dX5_keep_47 : decode cX5_keep 47 = .ok (.iinc 1 1, 3) := by decide +kernel
theorem dX5_keep_50 : decode cX5_keep 50 = .ok (.goto (-38), 3) := by decide +kernel
theorem dX5_keep_53 : decode cX5_keep 53 = .ok (.iconst 0, 1) := by decide +kernel
theorem dX5_keep_54 : decode cX5_keep 54 = .ok (.istore_n 1, 1) := by decide +kernel
theorem dX5_keep_55 : decode cX5_keep 55 = .ok (.iload_n 1, 1) := by decide +kernel
theorem dX5_keep_56 : decode cX5_keep 56 = .ok (.bipush 6, 2) := by decide +kernel
theorem dX5_keep_58 : decode cX5_keep 58 = .ok (.if_icmp .ge 24, 3) := by decide +kernel
theorem dX5_keep_61 : decode cX5_keep 61 = .ok (.aload_n 0, 1) := by decide +kernel
theorem dX5_keep_62 : decode cX5_keep 62 = .ok (.getfield 43, 3) := by decide +kernel
theorem dX5_keep_65 : decode cX5_keep 65 = .ok (.bipush 25, 2) := by decide +kernel
theorem dX5_keep_67 : decode cX5_keep 67 = .ok (.iload_n 1, 1) := by decide +kernel
theorem dX5_keep_68 : decode cX5_keep 68 = .ok (.iadd, 1) := by decide +kernel
theorem dX5_keep_69 : decode cX5_keep 69 = .ok (.aload_n 0, 1) := by decide +kernel
theorem dX5_keep_70 : decode cX5_keep 70 = .ok (.getfield 22, 3) := by decide +kernel
theorem dX5_keep_73 : decode cX5_keep 73 = .ok (.iload_n 1, 1) := by decide +kernel
theorem dX5_keep_74 : decode cX5_keep 74 = .ok (.iaload, 1) := by decide +kernel
theorem dX5_keep_75 : decode cX5_keep 75 = .ok (.iastore, 1) := by decide +kernel
theorem dX5_keep_76 : decode cX5_keep 76 = .ok (.iinc 1 1, 3) := by decide +kernel
theorem dX5_keep_79 : decode cX5_keep 79 = .ok (.goto (-24), 3) := by decide +kernel
theorem dX5_keep_82 : decode cX5_keep 82 = .ok (.return_, 1) := by decide +kernel
theorem dX5_putBack_0 : decode cX5_putBack 0 = .ok (.aload_n 0, 1) := by decide +kernel
theorem dX5_putBack_1 : decode cX5_putBack 1 = .ok (.aload_n 0, 1) := by decide +kernel
theorem dX5_putBack_2 : decode cX5_putBack 2 = .ok (.getfield 43, 3) := by decide +kernel
theorem dX5_putBack_5 : decode cX5_putBack 5 = .ok (.iconst 0, 1) := by decide +kernel
theorem dX5_putBack_6 : decode cX5_putBack 6 = .ok (.iaload, 1) := by decide +kernel
theorem dX5_putBack_7 : decode cX5_putBack 7 = .ok (.putfield 109, 3) := by decide +kernel
theorem dX5_putBack_10 : decode cX5_putBack 10 = .ok (.iconst 0, 1) := by decide +kernel
theorem dX5_putBack_11 : decode cX5_putBack 11 = .ok (.istore_n 1, 1) := by decide +kernel
theorem dX5_putBack_12 : decode cX5_putBack 12 = .ok (.iload_n 1, 1) := by decide +kernel
theorem dX5_putBack_13 : decode cX5_putBack 13 = .ok (.bipush 12, 2) := by decide +kernel
theorem dX5_putBack_15 : decode cX5_putBack 15 = .ok (.if_icmp .ge 38, 3) := by decide +kernel
theorem dX5_putBack_18 : decode cX5_putBack 18 = .ok (.aload_n 0, 1) := by decide +kernel
theorem dX5_putBack_19 : decode cX5_putBack 19 = .ok (.getfield 25, 3) := by decide +kernel
theorem dX5_putBack_22 : decode cX5_putBack 22 = .ok (.iload_n 1, 1) := by decide +kernel
theorem dX5_putBack_23 : decode cX5_putBack 23 = .ok (.aload_n 0, 1) := by decide +kernel
theorem dX5_putBack_24 : decode cX5_putBack 24 = .ok (.getfield 43, 3) := by decide +kernel
theorem dX5_putBack_27 : decode cX5_putBack 27 = .ok (.iconst 1, 1) := by decide +kernel
theorem dX5_putBack_28 : decode cX5_putBack 28 = .ok (.iload_n 1, 1) := by decide +kernel
theorem dX5_putBack_29 : decode cX5_putBack 29 = .ok (.iadd, 1) := by decide +kernel
theorem dX5_putBack_30 : decode cX5_putBack 30 = .ok (.iaload, 1) := by decide +kernel
theorem dX5_putBack_31 : decode cX5_putBack 31 = .ok (.iastore, 1) := by decide +kernel
theorem dX5_putBack_32 : decode cX5_putBack 32 = .ok (.aload_n 0, 1) := by decide +kernel
theorem dX5_putBack_33 : decode cX5_putBack 33 = .ok (.getfield 28, 3) := by decide +kernel
theorem dX5_putBack_36 : decode cX5_putBack 36 = .ok (.iload_n 1, 1) := by decide +kernel
theorem dX5_putBack_37 : decode cX5_putBack 37 = .ok (.aload_n 0, 1) := by decide +kernel
theorem dX5_putBack_38 : decode cX5_putBack 38 = .ok (.getfield 43, 3) := by decide +kernel
theorem dX5_putBack_41 : decode cX5_putBack 41 = .ok (.bipush 13, 2) := by decide +kernel
theorem dX5_putBack_43 : decode cX5_putBack 43 = .ok (.iload_n 1, 1) := by decide +kernel
theorem dX5_putBack_44 : decode cX5_putBack 44 = .ok (.iadd, 1) := by decide +kernel
theorem dX5_putBack_45 : decode cX5_putBack 45 = .ok (.iaload, 1) := by decide +kernel
theorem dX5_putBack_46 : decode cX5_putBack 46 = .ok (.iastore, 1) := by decide +kernel
theorem dX5_putBack_47 : decode cX5_putBack 47 = .ok (.iinc 1 1, 3) := by decide +kernel
theorem dX5_putBack_50 : decode cX5_putBack 50 = .ok (.goto (-38), 3) := by decide +kernel
theorem dX5_putBack_53 : decode cX5_putBack 53 = .ok (.iconst 0, 1) := by decide +kernel
theorem dX5_putBack_54 : decode cX5_putBack 54 = .ok (.istore_n 1, 1) := by decide +kernel
theorem dX5_putBack_55 : decode cX5_putBack 55 = .ok (.iload_n 1, 1) := by decide +kernel
theorem dX5_putBack_56 : decode cX5_putBack 56 = .ok (.bipush 6, 2) := by decide +kernel
theorem dX5_putBack_58 : decode cX5_putBack 58 = .ok (.if_icmp .ge 24, 3) := by decide +kernel
theorem dX5_putBack_61 : decode cX5_putBack 61 = .ok (.aload_n 0, 1) := by decide +kernel
theorem dX5_putBack_62 : decode cX5_putBack 62 = .ok (.getfield 22, 3) := by decide +kernel
theorem dX5_putBack_65 : decode cX5_putBack 65 = .ok (.iload_n 1, 1) := by decide +kernel
theorem dX5_putBack_66 : decode cX5_putBack 66 = .ok (.aload_n 0, 1) := by decide +kernel
theorem dX5_putBack_67 : decode cX5_putBack 67 = .ok (.getfield 43, 3) := by decide +kernel
theorem dX5_putBack_70 : decode cX5_putBack 70 = .ok (.bipush 25, 2) := by decide +kernel
theorem dX5_putBack_72 : decode cX5_putBack 72 = .ok (.iload_n 1, 1) := by decide +kernel
theorem dX5_putBack_73 : decode cX5_putBack 73 = .ok (.iadd, 1) := by decide +kernel
theorem dX5_putBack_74 : decode cX5_putBack 74 = .ok (.iaload, 1) := by decide +kernel
theorem dX5_putBack_75 : decode cX5_putBack 75 = .ok (.iastore, 1) := by decide +kernel
theorem dX5_putBack_76 : decode cX5_putBack 76 = .ok (.iinc 1 1, 3) := by decide +kernel
theorem dX5_putBack_79 : decode cX5_putBack 79 = .ok (.goto (-24), 3) := by decide +kernel
theorem dX5_putBack_82 : decode cX5_putBack 82 = .ok (.return_, 1) := by decide +kernel
set_option maxRecDepth 20000 in
theorem ggX5_does_X5_isWho : GoodIn wsX5_does wsX5_isWho := goodIn_r _ [7, 8, 9, 10, 11, 6, 12, 43, 44, 45, 46, 47, 48, 49, 50, 51, 52, 53, 54, 55, 56, 57, 58, 59, 60, 61, 62, 63, 64, 65, 66] (by decide +kernel) (by decide +kernel)
set_option maxRecDepth 20000 in
theorem gX5_does_X5_isWho : GoodIn wsX5_does (wsV RX5 157 RX5 yX5_isWho wsX5_isWho) := goodIn_app (goodIn_of _ (by decide +kernel)) ggX5_does_X5_isWho
set_option maxRecDepth 20000 in
theorem ggX5_does_X5_isThing : GoodIn wsX5_does wsX5_isThing := goodIn_r _ [12, 8, 43, 44, 45, 46, 47, 48, 49, 50, 51, 52, 53, 54, 55, 56, 57, 58, 59, 60, 61, 62, 63, 64, 65, 66] (by decide +kernel) (by decide +kernel)
set_option maxRecDepth 20000 in
theorem gX5_does_X5_isThing : GoodIn wsX5_does (wsV RX5 71 RX5 yX5_isThing wsX5_isThing) := goodIn_app (goodIn_of _ (by decide +kernel)) ggX5_does_X5_isThing
set_option maxRecDepth 20000 in
theorem ggX5_does_X5_turns : GoodIn wsX5_does wsX5_turns := goodIn_r _ [16, 17, 18, 19, 20, 6, 21, 2, 22, 23, 24, 25, 26, 27, 28, 29, 30, 43, 44, 45, 46, 47, 48, 49, 50, 51, 52, 53, 54, 55, 56, 57, 58, 59, 60, 61, 62, 63, 64, 65, 66] (by decide +kernel) (by decide +kernel)
set_option maxRecDepth 20000 in
theorem gX5_does_X5_turns : GoodIn wsX5_does (wsV RX5 171 RX5 yX5_turns wsX5_turns) := goodIn_app (goodIn_of _ (by decide +kernel)) ggX5_does_X5_turns
set_option maxRecDepth 20000 in
theorem ggX5_does_X5_canOwn : GoodIn wsX5_does wsX5_canOwn := goodIn_r _ [34, 35, 36, 37, 6, 38, 1, 43, 44, 45, 46, 47, 48, 49, 50, 51, 52, 53, 54, 55, 56, 57, 58, 59, 60, 61, 62, 63, 64, 65, 66] (by decide +kernel) (by decide +kernel)
set_option maxRecDepth 20000 in
theorem gX5_does_X5_canOwn : GoodIn wsX5_does (wsV RX5 177 RX5 yX5_canOwn wsX5_canOwn) := goodIn_app (goodIn_of _ (by decide +kernel)) ggX5_does_X5_canOwn
set_option maxRecDepth 20000 in
theorem ggX5_does_X5_handedBy : GoodIn wsX5_does wsX5_handedBy := goodIn_r _ [42, 17, 22, 2, 35, 36, 37, 6, 38, 1, 43, 44, 45, 46, 47, 48, 49, 50, 51, 52, 53, 54, 55, 56, 57, 58, 59, 60, 61, 62, 63, 64, 65, 66] (by decide +kernel) (by decide +kernel)
set_option maxRecDepth 20000 in
theorem gX5_does_X5_handedBy : GoodIn wsX5_does (wsV RX5 180 RX5 yX5_handedBy wsX5_handedBy) := goodIn_app (goodIn_of _ (by decide +kernel)) ggX5_does_X5_handedBy
theorem dX5_does_0 : decode cX5_does 0 = .ok (.iload_n 2, 1) := by decide +kernel
theorem dX5_does_1 : decode cX5_does 1 = .ok (.iload_n 3, 1) := by decide +kernel
theorem dX5_does_2 : decode cX5_does 2 = .ok (.if_icmp .ne 5, 3) := by decide +kernel
theorem dX5_does_5 : decode cX5_does 5 = .ok (.iconst 0, 1) := by decide +kernel
theorem dX5_does_6 : decode cX5_does 6 = .ok (.ireturn, 1) := by decide +kernel
theorem dX5_does_7 : decode cX5_does 7 = .ok (.iload_n 1, 1) := by decide +kernel
theorem dX5_does_8 : decode cX5_does 8 = .ok (.ifCond .ne 34, 3) := by decide +kernel
theorem dX5_does_11 : decode cX5_does 11 = .ok (.aload_n 0, 1) := by decide +kernel
theorem dX5_does_12 : decode cX5_does 12 = .ok (.iload_n 2, 1) := by decide +kernel
theorem dX5_does_13 : decode cX5_does 13 = .ok (.invokevirtual 157, 3) := by decide +kernel
theorem dX5_does_16 : decode cX5_does 16 = .ok (.ifCond .eq 24, 3) := by decide +kernel
theorem dX5_does_19 : decode cX5_does 19 = .ok (.aload_n 0, 1) := by decide +kernel
theorem dX5_does_20 : decode cX5_does 20 = .ok (.iload_n 3, 1) := by decide +kernel
theorem dX5_does_21 : decode cX5_does 21 = .ok (.invokevirtual 71, 3) := by decide +kernel
theorem dX5_does_24 : decode cX5_does 24 = .ok (.ifCond .eq 16, 3) := by decide +kernel
theorem dX5_does_27 : decode cX5_does 27 = .ok (.aload_n 0, 1) := by decide +kernel
theorem dX5_does_28 : decode cX5_does 28 = .ok (.iload_n 2, 1) := by decide +kernel
theorem dX5_does_29 : decode cX5_does 29 = .ok (.iload_n 3, 1) := by decide +kernel
theorem dX5_does_30 : decode cX5_does 30 = .ok (.invokevirtual 171, 3) := by decide +kernel
theorem dX5_does_33 : decode cX5_does 33 = .ok (.ifCond .eq 7, 3) := by decide +kernel
theorem dX5_does_36 : decode cX5_does 36 = .ok (.iconst 1, 1) := by decide +kernel
theorem dX5_does_37 : decode cX5_does 37 = .ok (.goto 4, 3) := by decide +kernel
theorem dX5_does_40 : decode cX5_does 40 = .ok (.iconst 0, 1) := by decide +kernel
theorem dX5_does_41 : decode cX5_does 41 = .ok (.ireturn, 1) := by decide +kernel
theorem dX5_does_42 : decode cX5_does 42 = .ok (.iload_n 1, 1) := by decide +kernel
theorem dX5_does_43 : decode cX5_does 43 = .ok (.iconst 1, 1) := by decide +kernel
theorem dX5_does_44 : decode cX5_does 44 = .ok (.if_icmp .ne 39, 3) := by decide +kernel
theorem dX5_does_47 : decode cX5_does 47 = .ok (.aload_n 0, 1) := by decide +kernel
theorem dX5_does_48 : decode cX5_does 48 = .ok (.iload_n 2, 1) := by decide +kernel
theorem dX5_does_49 : decode cX5_does 49 = .ok (.invokevirtual 71, 3) := by decide +kernel
theorem dX5_does_52 : decode cX5_does 52 = .ok (.ifCond .eq 20, 3) := by decide +kernel
theorem dX5_does_55 : decode cX5_does 55 = .ok (.aload_n 0, 1) := by decide +kernel
theorem dX5_does_56 : decode cX5_does 56 = .ok (.iload_n 3, 1) := by decide +kernel
theorem dX5_does_57 : decode cX5_does 57 = .ok (.invokevirtual 157, 3) := by decide +kernel
theorem dX5_does_60 : decode cX5_does 60 = .ok (.ifCond .eq 12, 3) := by decide +kernel
theorem dX5_does_63 : decode cX5_does 63 = .ok (.aload_n 0, 1) := by decide +kernel
theorem dX5_does_64 : decode cX5_does 64 = .ok (.iload_n 2, 1) := by decide +kernel
theorem dX5_does_65 : decode cX5_does 65 = .ok (.iload_n 3, 1) := by decide +kernel
theorem dX5_does_66 : decode cX5_does 66 = .ok (.invokevirtual 177, 3) := by decide +kernel
theorem dX5_does_69 : decode cX5_does 69 = .ok (.ifCond .ne 5, 3) := by decide +kernel
theorem dX5_does_72 : decode cX5_does 72 = .ok (.iconst 0, 1) := by decide +kernel
theorem dX5_does_73 : decode cX5_does 73 = .ok (.ireturn, 1) := by decide +kernel
theorem dX5_does_74 : decode cX5_does 74 = .ok (.aload_n 0, 1) := by decide +kernel
theorem dX5_does_75 : decode cX5_does 75 = .ok (.getfield 22, 3) := by decide +kernel
theorem dX5_does_78 : decode cX5_does 78 = .ok (.iload_n 2, 1) := by decide +kernel
theorem dX5_does_79 : decode cX5_does 79 = .ok (.iload_n 3, 1) := by decide +kernel
theorem dX5_does_80 : decode cX5_does 80 = .ok (.iastore, 1) := by decide +kernel
theorem dX5_does_81 : decode cX5_does 81 = .ok (.iconst 1, 1) := by decide +kernel
theorem dX5_does_82 : decode cX5_does 82 = .ok (.ireturn, 1) := by decide +kernel
theorem dX5_does_83 : decode cX5_does 83 = .ok (.aload_n 0, 1) := by decide +kernel
theorem dX5_does_84 : decode cX5_does 84 = .ok (.iload_n 2, 1) := by decide +kernel
theorem dX5_does_85 : decode cX5_does 85 = .ok (.invokevirtual 71, 3) := by decide +kernel
theorem dX5_does_88 : decode cX5_does 88 = .ok (.ifCond .eq 22, 3) := by decide +kernel
theorem dX5_does_91 : decode cX5_does 91 = .ok (.aload_n 0, 1) := by decide +kernel
theorem dX5_does_92 : decode cX5_does 92 = .ok (.iload_n 3, 1) := by decide +kernel
theorem dX5_does_93 : decode cX5_does 93 = .ok (.invokevirtual 71, 3) := by decide +kernel
theorem dX5_does_96 : decode cX5_does 96 = .ok (.ifCond .eq 14, 3) := by decide +kernel
theorem dX5_does_99 : decode cX5_does 99 = .ok (.aload_n 0, 1) := by decide +kernel
theorem dX5_does_100 : decode cX5_does 100 = .ok (.iload_n 2, 1) := by decide +kernel
theorem dX5_does_101 : decode cX5_does 101 = .ok (.iload_n 3, 1) := by decide +kernel
theorem dX5_does_102 : decode cX5_does 102 = .ok (.invokevirtual 180, 3) := by decide +kernel
theorem dX5_does_105 : decode cX5_does 105 = .ok (.bipush (-9), 2) := by decide +kernel
theorem dX5_does_107 : decode cX5_does 107 = .ok (.if_icmp .ne 5, 3) := by decide +kernel
theorem dX5_does_110 : decode cX5_does 110 = .ok (.iconst 0, 1) := by decide +kernel
theorem dX5_does_111 : decode cX5_does 111 = .ok (.ireturn, 1) := by decide +kernel
theorem dX5_does_112 : decode cX5_does 112 = .ok (.aload_n 0, 1) := by decide +kernel
theorem dX5_does_113 : decode cX5_does 113 = .ok (.getfield 25, 3) := by decide +kernel
theorem dX5_does_116 : decode cX5_does 116 = .ok (.aload_n 0, 1) := by decide +kernel
theorem dX5_does_117 : decode cX5_does 117 = .ok (.iload_n 2, 1) := by decide +kernel
theorem dX5_does_118 : decode cX5_does 118 = .ok (.iload_n 3, 1) := by decide +kernel
theorem dX5_does_119 : decode cX5_does 119 = .ok (.invokevirtual 180, 3) := by decide +kernel
theorem dX5_does_122 : decode cX5_does 122 = .ok (.iload_n 3, 1) := by decide +kernel
theorem dX5_does_123 : decode cX5_does 123 = .ok (.iastore, 1) := by decide +kernel
theorem dX5_does_124 : decode cX5_does 124 = .ok (.aload_n 0, 1) := by decide +kernel
theorem dX5_does_125 : decode cX5_does 125 = .ok (.getfield 22, 3) := by decide +kernel
theorem dX5_does_128 : decode cX5_does 128 = .ok (.iload_n 2, 1) := by decide +kernel
theorem dX5_does_129 : decode cX5_does 129 = .ok (.iload_n 3, 1) := by decide +kernel
theorem dX5_does_130 : decode cX5_does 130 = .ok (.iastore, 1) := by decide +kernel
theorem dX5_does_131 : decode cX5_does 131 = .ok (.iconst 1, 1) := by decide +kernel
theorem dX5_does_132 : decode cX5_does 132 = .ok (.ireturn, 1) := by decide +kernel
set_option maxRecDepth 20000 in
theorem ggX5_goDay_X5_does : GoodIn wsX5_goDay wsX5_does := goodIn_r _ [6, 7, 8, 9, 10, 11, 5, 12, 13, 14, 15, 16, 17, 18, 19, 20, 21, 22, 23, 24, 25, 26, 27, 28, 29, 30, 31, 32, 33, 34, 35, 36, 37, 38, 39, 40, 41, 42, 43, 44, 45, 46, 47, 48, 49, 50, 51, 52, 53, 54, 55, 56, 57, 58, 59, 60, 61, 62, 63, 64, 65, 66, 67, 68, 69, 70, 71] (by decide +kernel) (by decide +kernel)
set_option maxRecDepth 20000 in
theorem gX5_goDay_X5_does : GoodIn wsX5_goDay (wsV RX5 183 RX5 yX5_does wsX5_does) := goodIn_app (goodIn_of _ (by decide +kernel)) ggX5_goDay_X5_does
theorem dX5_goDay_0 : decode cX5_goDay 0 = .ok (.iconst 0, 1) := by decide +kernel
theorem dX5_goDay_1 : decode cX5_goDay 1 = .ok (.istore_n 3, 1) := by decide +kernel
theorem dX5_goDay_2 : decode cX5_goDay 2 = .ok (.iload_n 3, 1) := by decide +kernel
theorem dX5_goDay_3 : decode cX5_goDay 3 = .ok (.iload_n 2, 1) := by decide +kernel
theorem dX5_goDay_4 : decode cX5_goDay 4 = .ok (.if_icmp .ge 52, 3) := by decide +kernel
theorem dX5_goDay_7 : decode cX5_goDay 7 = .ok (.aload_n 0, 1) := by decide +kernel
theorem dX5_goDay_8 : decode cX5_goDay 8 = .ok (.aload_n 0, 1) := by decide +kernel
theorem dX5_goDay_9 : decode cX5_goDay 9 = .ok (.getfield 16, 3) := by decide +kernel
theorem dX5_goDay_12 : decode cX5_goDay 12 = .ok (.iload_n 1, 1) := by decide +kernel
theorem dX5_goDay_13 : decode cX5_goDay 13 = .ok (.iconst 3, 1) := by decide +kernel
theorem dX5_goDay_14 : decode cX5_goDay 14 = .ok (.iload_n 3, 1) := by decide +kernel
theorem dX5_goDay_15 : decode cX5_goDay 15 = .ok (.imul, 1) := by decide +kernel
theorem dX5_goDay_16 : decode cX5_goDay 16 = .ok (.iadd, 1) := by decide +kernel
theorem dX5_goDay_17 : decode cX5_goDay 17 = .ok (.iaload, 1) := by decide +kernel
theorem dX5_goDay_18 : decode cX5_goDay 18 = .ok (.aload_n 0, 1) := by decide +kernel
theorem dX5_goDay_19 : decode cX5_goDay 19 = .ok (.getfield 16, 3) := by decide +kernel
theorem dX5_goDay_22 : decode cX5_goDay 22 = .ok (.iload_n 1, 1) := by decide +kernel
theorem dX5_goDay_23 : decode cX5_goDay 23 = .ok (.iconst 3, 1) := by decide +kernel
theorem dX5_goDay_24 : decode cX5_goDay 24 = .ok (.iload_n 3, 1) := by decide +kernel
theorem dX5_goDay_25 : decode cX5_goDay 25 = .ok (.imul, 1) := by decide +kernel
theorem dX5_goDay_26 : decode cX5_goDay 26 = .ok (.iadd, 1) := by decide +kernel
theorem dX5_goDay_27 : decode cX5_goDay 27 = .ok (.iconst 1, 1) := by decide +kernel
theorem dX5_goDay_28 : decode cX5_goDay 28 = .ok (.iadd, 1) := by decide +kernel
theorem dX5_goDay_29 : decode cX5_goDay 29 = .ok (.iaload, 1) := by decide +kernel
theorem dX5_goDay_30 : decode cX5_goDay 30 = .ok (.aload_n 0, 1) := by decide +kernel
theorem dX5_goDay_31 : decode cX5_goDay 31 = .ok (.getfield 16, 3) := by decide +kernel
theorem dX5_goDay_34 : decode cX5_goDay 34 = .ok (.iload_n 1, 1) := by decide +kernel
theorem dX5_goDay_35 : decode cX5_goDay 35 = .ok (.iconst 3, 1) := by decide +kernel
theorem dX5_goDay_36 : decode cX5_goDay 36 = .ok (.iload_n 3, 1) := by decide +kernel
theorem dX5_goDay_37 : decode cX5_goDay 37 = .ok (.imul, 1) := by decide +kernel
theorem dX5_goDay_38 : decode cX5_goDay 38 = .ok (.iadd, 1) := by decide +kernel
theorem dX5_goDay_39 : decode cX5_goDay 39 = .ok (.iconst 2, 1) := by decide +kernel
theorem dX5_goDay_40 : decode cX5_goDay 40 = .ok (.iadd, 1) := by decide +kernel
theorem dX5_goDay_41 : decode cX5_goDay 41 = .ok (.iaload, 1) := by decide +kernel
theorem dX5_goDay_42 : decode cX5_goDay 42 = .ok (.invokevirtual 183, 3) := by decide +kernel
theorem dX5_goDay_45 : decode cX5_goDay 45 = .ok (.ifCond .ne 5, 3) := by decide +kernel
theorem dX5_goDay_48 : decode cX5_goDay 48 = .ok (.iload_n 3, 1) := by decide +kernel
theorem dX5_goDay_49 : decode cX5_goDay 49 = .ok (.ireturn, 1) := by decide +kernel
theorem dX5_goDay_50 : decode cX5_goDay 50 = .ok (.iinc 3 1, 3) := by decide +kernel
theorem dX5_goDay_53 : decode cX5_goDay 53 = .ok (.goto (-51), 3) := by decide +kernel
theorem dX5_goDay_56 : decode cX5_goDay 56 = .ok (.bipush (-9), 2) := by decide +kernel
theorem dX5_goDay_58 : decode cX5_goDay 58 = .ok (.ireturn, 1) := by decide +kernel
set_option maxRecDepth 20000 in
theorem ggX5_day_X5_isSheet : GoodIn wsX5_day wsX5_isSheet := goodIn_r _ [7, 8, 9, 6, 10] (by decide +kernel) (by decide +kernel)
set_option maxRecDepth 20000 in
theorem gX5_day_X5_isSheet : GoodIn wsX5_day (va_wsS RX5 86 yX5_isSheet wsX5_isSheet) := goodIn_app (goodIn_of _ (by decide +kernel)) ggX5_day_X5_isSheet
set_option maxRecDepth 20000 in
theorem ggX5_day_X5_isSort : GoodIn wsX5_day wsX5_isSort := goodIn_r _ [13, 8, 9, 6, 10] (by decide +kernel) (by decide +kernel)
set_option maxRecDepth 20000 in
theorem gX5_day_X5_isSort : GoodIn wsX5_day (va_wsS RX5 89 yX5_isSort wsX5_isSort) := goodIn_app (goodIn_of _ (by decide +kernel)) ggX5_day_X5_isSort
set_option maxRecDepth 20000 in
theorem ggX5_day_X5_within : GoodIn wsX5_day wsX5_within := goodIn_r _ [10] (by decide +kernel) (by decide +kernel)
set_option maxRecDepth 20000 in
theorem gX5_day_X5_within : GoodIn wsX5_day (va_wsS RX5 64 yX5_within wsX5_within) := goodIn_app (goodIn_of _ (by decide +kernel)) ggX5_day_X5_within
set_option maxRecDepth 20000 in
theorem ggX5_day_X5_against : GoodIn wsX5_day wsX5_against := goodIn_r _ [17, 18, 19, 117, 118, 119, 120, 121, 122, 123, 124, 125, 126, 127, 128, 129, 130, 131, 132, 133, 134, 135, 136, 137, 138, 139, 140] (by decide +kernel) (by decide +kernel)
set_option maxRecDepth 20000 in
theorem gX5_day_X5_against : GoodIn wsX5_day (wsV RX5 92 RX5 yX5_against wsX5_against) := goodIn_app (goodIn_of _ (by decide +kernel)) ggX5_day_X5_against
set_option maxRecDepth 20000 in
theorem ggX5_day_X5_fails : GoodIn wsX5_day wsX5_fails := goodIn_r _ [23, 1, 117, 118, 119, 120, 121, 122, 123, 124, 125, 126, 127, 128, 129, 130, 131, 132, 133, 134, 135, 136, 137, 138, 139, 140] (by decide +kernel) (by decide +kernel)
set_option maxRecDepth 20000 in
theorem gX5_day_X5_fails : GoodIn wsX5_day (wsV RX5 96 RX5 yX5_fails wsX5_fails) := goodIn_app (goodIn_of _ (by decide +kernel)) ggX5_day_X5_fails
set_option maxRecDepth 20000 in
theorem ggX5_day_X5_keep : GoodIn wsX5_day wsX5_keep := goodIn_r _ [27, 28, 29, 30, 31, 32, 117, 118, 119, 120, 121, 122, 123, 124, 125, 126, 127, 128, 129, 130, 131, 132, 133, 134, 135, 136, 137, 138, 139, 140] (by decide +kernel) (by decide +kernel)
set_option maxRecDepth 20000 in
theorem gX5_day_X5_keep : GoodIn wsX5_day (wsV RX5 186 RX5 yX5_keep wsX5_keep) := goodIn_app (goodIn_of _ (by decide +kernel)) ggX5_day_X5_keep
set_option maxRecDepth 20000 in
theorem ggX5_day_X5_goDay : GoodIn wsX5_day wsX5_goDay := goodIn_r _ [36, 3, 37, 38, 39, 6, 40, 32, 30, 41, 42, 43, 44, 2, 45, 46, 47, 48, 49, 50, 51, 52, 29, 53, 54, 55, 56, 31, 57, 58, 59, 60, 61, 62, 63, 64, 65, 66, 67, 68, 69, 70, 71, 72, 73, 74, 75, 76, 117, 118, 119, 120, 121, 122, 123, 124, 125, 126, 127, 128, 129, 130, 131, 132, 133, 134, 135, 136, 137, 138, 139, 140] (by decide +kernel) (by decide +kernel)
set_option maxRecDepth 20000 in
theorem gX5_day_X5_goDay : GoodIn wsX5_day (wsV RX5 189 RX5 yX5_goDay wsX5_goDay) := goodIn_app (goodIn_of _ (by decide +kernel)) ggX5_day_X5_goDay
set_option maxRecDepth 20000 in
theorem ggX5_day_X5_tellDay : GoodIn wsX5_day wsX5_tellDay := goodIn_r _ [80, 32, 29, 2, 45, 46, 47, 6, 48, 81, 82, 83, 84, 85, 86, 87, 88, 89, 90, 91, 92, 93, 94, 95, 96, 97, 98, 99, 100, 30, 31, 101, 102, 103, 104, 105, 106, 107, 108, 109, 110, 111, 112, 117, 118, 119, 120, 121, 122, 123, 124, 125, 126, 127, 128, 129, 130, 131, 132, 133, 134, 135, 136, 137, 138, 139, 140] (by decide +kernel) (by decide +kernel)
set_option maxRecDepth 20000 in
theorem gX5_day_X5_tellDay : GoodIn wsX5_day (wsV RX5 192 RX5 yX5_tellDay wsX5_tellDay) := goodIn_app (goodIn_of _ (by decide +kernel)) ggX5_day_X5_tellDay
set_option maxRecDepth 20000 in
theorem ggX5_day_X5_putBack : GoodIn wsX5_day wsX5_putBack := goodIn_r _ [116, 28, 29, 30, 31, 32, 117, 118, 119, 120, 121, 122, 123, 124, 125, 126, 127, 128, 129, 130, 131, 132, 133, 134, 135, 136, 137, 138, 139, 140] (by decide +kernel) (by decide +kernel)
set_option maxRecDepth 20000 in
theorem gX5_day_X5_putBack : GoodIn wsX5_day (wsV RX5 195 RX5 yX5_putBack wsX5_putBack) := goodIn_app (goodIn_of _ (by decide +kernel)) ggX5_day_X5_putBack
theorem dX5_day_0 : decode cX5_day 0 = .ok (.aload_n 0, 1) := by decide +kernel
theorem dX5_day_1 : decode cX5_day 1 = .ok (.iconst 0, 1) := by decide +kernel
theorem dX5_day_2 : decode cX5_day 2 = .ok (.putfield 58, 3) := by decide +kernel
theorem dX5_day_5 : decode cX5_day 5 = .ok (.iload_n 1, 1) := by decide +kernel
theorem dX5_day_6 : decode cX5_day 6 = .ok (.invokestatic 86, 3) := by decide +kernel
theorem dX5_day_9 : decode cX5_day 9 = .ok (.ifCond .ne 5, 3) := by decide +kernel
theorem dX5_day_12 : decode cX5_day 12 = .ok (.iconst (-1), 1) := by decide +kernel
theorem dX5_day_13 : decode cX5_day 13 = .ok (.ireturn, 1) := by decide +kernel
theorem dX5_day_14 : decode cX5_day 14 = .ok (.iload_n 2, 1) := by decide +kernel
theorem dX5_day_15 : decode cX5_day 15 = .ok (.invokestatic 89, 3) := by decide +kernel
theorem dX5_day_18 : decode cX5_day 18 = .ok (.ifCond .eq 36, 3) := by decide +kernel
theorem dX5_day_21 : decode cX5_day 21 = .ok (.iload 4, 2) := by decide +kernel
theorem dX5_day_23 : decode cX5_day 23 = .ok (.iconst 0, 1) := by decide +kernel
theorem dX5_day_24 : decode cX5_day 24 = .ok (.bipush 20, 2) := by decide +kernel
theorem dX5_day_26 : decode cX5_day 26 = .ok (.invokestatic 64, 3) := by decide +kernel
theorem dX5_day_29 : decode cX5_day 29 = .ok (.ifCond .eq 25, 3) := by decide +kernel
theorem dX5_day_32 : decode cX5_day 32 = .ok (.iload 5, 2) := by decide +kernel
theorem dX5_day_34 : decode cX5_day 34 = .ok (.iconst 0, 1) := by decide +kernel
theorem dX5_day_35 : decode cX5_day 35 = .ok (.iconst 4, 1) := by decide +kernel
theorem dX5_day_36 : decode cX5_day 36 = .ok (.invokestatic 64, 3) := by decide +kernel
theorem dX5_day_39 : decode cX5_day 39 = .ok (.ifCond .ne 18, 3) := by decide +kernel
theorem dX5_day_42 : decode cX5_day 42 = .ok (.iload 5, 2) := by decide +kernel
theorem dX5_day_44 : decode cX5_day 44 = .ok (.bipush 10, 2) := by decide +kernel
theorem dX5_day_46 : decode cX5_day 46 = .ok (.bipush 15, 2) := by decide +kernel
theorem dX5_day_48 : decode cX5_day 48 = .ok (.invokestatic 64, 3) := by decide +kernel
theorem dX5_day_51 : decode cX5_day 51 = .ok (.ifCond .ne 6, 3) := by decide +kernel
theorem dX5_day_54 : decode cX5_day 54 = .ok (.bipush (-2), 2) := by decide +kernel
theorem dX5_day_56 : decode cX5_day 56 = .ok (.ireturn, 1) := by decide +kernel
theorem dX5_day_57 : decode cX5_day 57 = .ok (.aload_n 0, 1) := by decide +kernel
theorem dX5_day_58 : decode cX5_day 58 = .ok (.iload_n 1, 1) := by decide +kernel
theorem dX5_day_59 : decode cX5_day 59 = .ok (.iload_n 2, 1) := by decide +kernel
theorem dX5_day_60 : decode cX5_day 60 = .ok (.iload_n 3, 1) := by decide +kernel
theorem dX5_day_61 : decode cX5_day 61 = .ok (.iconst 3, 1) := by decide +kernel
theorem dX5_day_62 : decode cX5_day 62 = .ok (.iload 4, 2) := by decide +kernel
theorem dX5_day_64 : decode cX5_day 64 = .ok (.imul, 1) := by decide +kernel
theorem dX5_day_65 : decode cX5_day 65 = .ok (.invokevirtual 92, 3) := by decide +kernel
theorem dX5_day_68 : decode cX5_day 68 = .ok (.istore 6, 2) := by decide +kernel
theorem dX5_day_70 : decode cX5_day 70 = .ok (.iload 6, 2) := by decide +kernel
theorem dX5_day_72 : decode cX5_day 72 = .ok (.ifCond .eq 10, 3) := by decide +kernel
theorem dX5_day_75 : decode cX5_day 75 = .ok (.aload_n 0, 1) := by decide +kernel
theorem dX5_day_76 : decode cX5_day 76 = .ok (.iload 6, 2) := by decide +kernel
theorem dX5_day_78 : decode cX5_day 78 = .ok (.invokevirtual 96, 3) := by decide +kernel
theorem dX5_day_81 : decode cX5_day 81 = .ok (.ireturn, 1) := by decide +kernel
theorem dX5_day_82 : decode cX5_day 82 = .ok (.aload_n 0, 1) := by decide +kernel
theorem dX5_day_83 : decode cX5_day 83 = .ok (.getfield 68, 3) := by decide +kernel
theorem dX5_day_86 : decode cX5_day 86 = .ok (.ifCond .ne 6, 3) := by decide +kernel
theorem dX5_day_89 : decode cX5_day 89 = .ok (.bipush (-3), 2) := by decide +kernel
theorem dX5_day_91 : decode cX5_day 91 = .ok (.ireturn, 1) := by decide +kernel
theorem dX5_day_92 : decode cX5_day 92 = .ok (.bipush 60, 2) := by decide +kernel
theorem dX5_day_94 : decode cX5_day 94 = .ok (.iload_n 1, 1) := by decide +kernel
theorem dX5_day_95 : decode cX5_day 95 = .ok (.imul, 1) := by decide +kernel
theorem dX5_day_96 : decode cX5_day 96 = .ok (.iload_n 3, 1) := by decide +kernel
theorem dX5_day_97 : decode cX5_day 97 = .ok (.iadd, 1) := by decide +kernel
theorem dX5_day_98 : decode cX5_day 98 = .ok (.istore 7, 2) := by decide +kernel
theorem dX5_day_100 : decode cX5_day 100 = .ok (.iconst 0, 1) := by decide +kernel
theorem dX5_day_101 : decode cX5_day 101 = .ok (.istore 8, 2) := by decide +kernel
theorem dX5_day_103 : decode cX5_day 103 = .ok (.iload 8, 2) := by decide +kernel
theorem dX5_day_105 : decode cX5_day 105 = .ok (.iload 4, 2) := by decide +kernel
theorem dX5_day_107 : decode cX5_day 107 = .ok (.if_icmp .ge 32, 3) := by decide +kernel
theorem dX5_day_110 : decode cX5_day 110 = .ok (.aload_n 0, 1) := by decide +kernel
theorem dX5_day_111 : decode cX5_day 111 = .ok (.getfield 16, 3) := by decide +kernel
theorem dX5_day_114 : decode cX5_day 114 = .ok (.iload 7, 2) := by decide +kernel
theorem dX5_day_116 : decode cX5_day 116 = .ok (.iconst 3, 1) := by decide +kernel
theorem dX5_day_117 : decode cX5_day 117 = .ok (.iload 8, 2) := by decide +kernel
theorem dX5_day_119 : decode cX5_day 119 = .ok (.imul, 1) := by decide +kernel
theorem dX5_day_120 : decode cX5_day 120 = .ok (.iadd, 1) := by decide +kernel
theorem dX5_day_121 : decode cX5_day 121 = .ok (.iaload, 1) := by decide +kernel
theorem dX5_day_122 : decode cX5_day 122 = .ok (.iconst 0, 1) := by decide +kernel
theorem dX5_day_123 : decode cX5_day 123 = .ok (.iconst 2, 1) := by decide +kernel
theorem dX5_day_124 : decode cX5_day 124 = .ok (.invokestatic 64, 3) := by decide +kernel
theorem dX5_day_127 : decode cX5_day 127 = .ok (.ifCond .ne 6, 3) := by decide +kernel
theorem dX5_day_130 : decode cX5_day 130 = .ok (.bipush (-2), 2) := by decide +kernel
theorem dX5_day_132 : decode cX5_day 132 = .ok (.ireturn, 1) := by decide +kernel
theorem dX5_day_133 : decode cX5_day 133 = .ok (.iinc 8 1, 3) := by decide +kernel
theorem dX5_day_136 : decode cX5_day 136 = .ok (.goto (-33), 3) := by decide +kernel
theorem dX5_day_139 : decode cX5_day 139 = .ok (.aload_n 0, 1) := by decide +kernel
theorem dX5_day_140 : decode cX5_day 140 = .ok (.invokevirtual 186, 3) := by decide +kernel
theorem dX5_day_143 : decode cX5_day 143 = .ok (.aload_n 0, 1) := by decide +kernel
theorem dX5_day_144 : decode cX5_day 144 = .ok (.iload 7, 2) := by decide +kernel
theorem dX5_day_146 : decode cX5_day 146 = .ok (.iload 4, 2) := by decide +kernel
theorem dX5_day_148 : decode cX5_day 148 = .ok (.invokevirtual 189, 3) := by decide +kernel
theorem dX5_day_151 : decode cX5_day 151 = .ok (.istore 8, 2) := by decide +kernel
theorem dX5_day_153 : decode cX5_day 153 = .ok (.aload_n 0, 1) := by decide +kernel
theorem dX5_day_154 : decode cX5_day 154 = .ok (.iload 5, 2) := by decide +kernel
theorem dX5_day_156 : decode cX5_day 156 = .ok (.invokevirtual 192, 3) := by decide +kernel
theorem dX5_day_159 : decode cX5_day 159 = .ok (.istore 9, 2) := by decide +kernel
theorem dX5_day_161 : decode cX5_day 161 = .ok (.aload_n 0, 1) := by decide +kernel
theorem dX5_day_162 : decode cX5_day 162 = .ok (.invokevirtual 195, 3) := by decide +kernel
theorem dX5_day_165 : decode cX5_day 165 = .ok (.iload 5, 2) := by decide +kernel
theorem dX5_day_167 : decode cX5_day 167 = .ok (.iconst 1, 1) := by decide +kernel
theorem dX5_day_168 : decode cX5_day 168 = .ok (.if_icmp .ne 8, 3) := by decide +kernel
theorem dX5_day_171 : decode cX5_day 171 = .ok (.iload 8, 2) := by decide +kernel
theorem dX5_day_173 : decode cX5_day 173 = .ok (.goto 20, 3) := by decide +kernel
theorem dX5_day_176 : decode cX5_day 176 = .ok (.iload 8, 2) := by decide +kernel
theorem dX5_day_178 : decode cX5_day 178 = .ok (.bipush (-9), 2) := by decide +kernel
theorem dX5_day_180 : decode cX5_day 180 = .ok (.if_icmp .ne 8, 3) := by decide +kernel
theorem dX5_day_183 : decode cX5_day 183 = .ok (.iload 9, 2) := by decide +kernel
theorem dX5_day_185 : decode cX5_day 185 = .ok (.goto 8, 3) := by decide +kernel
theorem dX5_day_188 : decode cX5_day 188 = .ok (.bipush (-100), 2) := by decide +kernel
theorem dX5_day_190 : decode cX5_day 190 = .ok (.iload 8, 2) := by decide +kernel
theorem dX5_day_192 : decode cX5_day 192 = .ok (.isub, 1) := by decide +kernel
theorem dX5_day_193 : decode cX5_day 193 = .ok (.ireturn, 1) := by decide +kernel
set_option maxRecDepth 20000 in
theorem ggX5_tellDay_X5_isThing : GoodIn wsX5_tellDay wsX5_isThing := goodIn_r _ [8, 3, 43, 44, 45, 46, 47, 48, 49, 50, 51, 52, 53, 54, 55, 56, 57, 58, 59, 60, 61, 62, 63, 64, 65, 66] (by decide +kernel) (by decide +kernel)
set_option maxRecDepth 20000 in
theorem gX5_tellDay_X5_isThing : GoodIn wsX5_tellDay (wsV RX5 71 RX5 yX5_isThing wsX5_isThing) := goodIn_app (goodIn_of _ (by decide +kernel)) ggX5_tellDay_X5_isThing
set_option maxRecDepth 20000 in
theorem ggX5_tellDay_X5_unlawfulNow : GoodIn wsX5_tellDay wsX5_unlawfulNow := goodIn_r _ [12, 3, 13, 14, 15, 7, 16, 1, 17, 18, 19, 20, 21, 22, 23, 24, 25, 26, 27, 28, 2, 29, 30, 31, 32, 33, 43, 44, 45, 46, 47, 48, 49, 50, 51, 52, 53, 54, 55, 56, 57, 58, 59, 60, 61, 62, 63, 64, 65, 66] (by decide +kernel) (by decide +kernel)
set_option maxRecDepth 20000 in
theorem gX5_tellDay_X5_unlawfulNow : GoodIn wsX5_tellDay (wsV RX5 198 RX5 yX5_unlawfulNow wsX5_unlawfulNow) := goodIn_app (goodIn_of _ (by decide +kernel)) ggX5_tellDay_X5_unlawfulNow
set_option maxRecDepth 20000 in
theorem ggX5_tellDay_X5_reachedBut : GoodIn wsX5_tellDay wsX5_reachedBut := goodIn_r _ [24, 25, 26, 27, 7, 28, 2, 29, 30, 31, 32, 33, 43, 44, 45, 46, 47, 48, 49, 50, 51, 52, 53, 54, 55, 56, 57, 58, 59, 60, 61, 62, 63, 64, 65, 66] (by decide +kernel) (by decide +kernel)
set_option maxRecDepth 20000 in
theorem gX5_tellDay_X5_reachedBut : GoodIn wsX5_tellDay (wsV RX5 133 RX5 yX5_reachedBut wsX5_reachedBut) := goodIn_app (goodIn_of _ (by decide +kernel)) ggX5_tellDay_X5_reachedBut
set_option maxRecDepth 20000 in
theorem ggX5_tellDay_X5_lockOf : GoodIn wsX5_tellDay wsX5_lockOf := goodIn_r _ [37, 38, 39, 40, 41, 7, 42, 1, 43, 44, 45, 46, 47, 48, 49, 50, 51, 52, 53, 54, 55, 56, 57, 58, 59, 60, 61, 62, 63, 64, 65, 66] (by decide +kernel) (by decide +kernel)
set_option maxRecDepth 20000 in
theorem gX5_tellDay_X5_lockOf : GoodIn wsX5_tellDay (wsV RX5 145 RX5 yX5_lockOf wsX5_lockOf) := goodIn_app (goodIn_of _ (by decide +kernel)) ggX5_tellDay_X5_lockOf
theorem dX5_tellDay_0 : decode cX5_tellDay 0 = .ok (.iload_n 1, 1) := by decide +kernel
theorem dX5_tellDay_1 : decode cX5_tellDay 1 = .ok (.bipush 10, 2) := by decide +kernel
theorem dX5_tellDay_3 : decode cX5_tellDay 3 = .ok (.if_icmp .lt 29, 3) := by decide +kernel
theorem dX5_tellDay_6 : decode cX5_tellDay 6 = .ok (.aload_n 0, 1) := by decide +kernel
theorem dX5_tellDay_7 : decode cX5_tellDay 7 = .ok (.iload_n 1, 1) := by decide +kernel
theorem dX5_tellDay_8 : decode cX5_tellDay 8 = .ok (.bipush 10, 2) := by decide +kernel
theorem dX5_tellDay_10 : decode cX5_tellDay 10 = .ok (.isub, 1) := by decide +kernel
theorem dX5_tellDay_11 : decode cX5_tellDay 11 = .ok (.invokevirtual 71, 3) := by decide +kernel
theorem dX5_tellDay_14 : decode cX5_tellDay 14 = .ok (.ifCond .eq 15, 3) := by decide +kernel
theorem dX5_tellDay_17 : decode cX5_tellDay 17 = .ok (.aload_n 0, 1) := by decide +kernel
theorem dX5_tellDay_18 : decode cX5_tellDay 18 = .ok (.getfield 22, 3) := by decide +kernel
theorem dX5_tellDay_21 : decode cX5_tellDay 21 = .ok (.iload_n 1, 1) := by decide +kernel
theorem dX5_tellDay_22 : decode cX5_tellDay 22 = .ok (.bipush 10, 2) := by decide +kernel
theorem dX5_tellDay_24 : decode cX5_tellDay 24 = .ok (.isub, 1) := by decide +kernel
theorem dX5_tellDay_25 : decode cX5_tellDay 25 = .ok (.iaload, 1) := by decide +kernel
theorem dX5_tellDay_26 : decode cX5_tellDay 26 = .ok (.goto 5, 3) := by decide +kernel
theorem dX5_tellDay_29 : decode cX5_tellDay 29 = .ok (.bipush (-9), 2) := by decide +kernel
theorem dX5_tellDay_31 : decode cX5_tellDay 31 = .ok (.ireturn, 1) := by decide +kernel
theorem dX5_tellDay_32 : decode cX5_tellDay 32 = .ok (.iload_n 1, 1) := by decide +kernel
theorem dX5_tellDay_33 : decode cX5_tellDay 33 = .ok (.tableswitch 48 0 3 #[31, 48, 36, 41], 31) := by decide +kernel
theorem dX5_tellDay_64 : decode cX5_tellDay 64 = .ok (.aload_n 0, 1) := by decide +kernel
theorem dX5_tellDay_65 : decode cX5_tellDay 65 = .ok (.getfield 109, 3) := by decide +kernel
theorem dX5_tellDay_68 : decode cX5_tellDay 68 = .ok (.ireturn, 1) := by decide +kernel
theorem dX5_tellDay_69 : decode cX5_tellDay 69 = .ok (.aload_n 0, 1) := by decide +kernel
theorem dX5_tellDay_70 : decode cX5_tellDay 70 = .ok (.invokevirtual 198, 3) := by decide +kernel
theorem dX5_tellDay_73 : decode cX5_tellDay 73 = .ok (.ireturn, 1) := by decide +kernel
theorem dX5_tellDay_74 : decode cX5_tellDay 74 = .ok (.aload_n 0, 1) := by decide +kernel
theorem dX5_tellDay_75 : decode cX5_tellDay 75 = .ok (.bipush (-9), 2) := by decide +kernel
theorem dX5_tellDay_77 : decode cX5_tellDay 77 = .ok (.invokevirtual 133, 3) := by decide +kernel
theorem dX5_tellDay_80 : decode cX5_tellDay 80 = .ok (.ireturn, 1) := by decide +kernel
theorem dX5_tellDay_81 : decode cX5_tellDay 81 = .ok (.iconst 0, 1) := by decide +kernel
theorem dX5_tellDay_82 : decode cX5_tellDay 82 = .ok (.istore_n 2, 1) := by decide +kernel
theorem dX5_tellDay_83 : decode cX5_tellDay 83 = .ok (.iconst 0, 1) := by decide +kernel
theorem dX5_tellDay_84 : decode cX5_tellDay 84 = .ok (.istore_n 3, 1) := by decide +kernel
theorem dX5_tellDay_85 : decode cX5_tellDay 85 = .ok (.iload_n 3, 1) := by decide +kernel
theorem dX5_tellDay_86 : decode cX5_tellDay 86 = .ok (.aload_n 0, 1) := by decide +kernel
theorem dX5_tellDay_87 : decode cX5_tellDay 87 = .ok (.getfield 68, 3) := by decide +kernel
theorem dX5_tellDay_90 : decode cX5_tellDay 90 = .ok (.if_icmp .ge 28, 3) := by decide +kernel
theorem dX5_tellDay_93 : decode cX5_tellDay 93 = .ok (.aload_n 0, 1) := by decide +kernel
theorem dX5_tellDay_94 : decode cX5_tellDay 94 = .ok (.iload_n 3, 1) := by decide +kernel
theorem dX5_tellDay_95 : decode cX5_tellDay 95 = .ok (.invokevirtual 145, 3) := by decide +kernel
theorem dX5_tellDay_98 : decode cX5_tellDay 98 = .ok (.iload_n 2, 1) := by decide +kernel
theorem dX5_tellDay_99 : decode cX5_tellDay 99 = .ok (.if_icmp .le 11, 3) := by decide +kernel
theorem dX5_tellDay_102 : decode cX5_tellDay 102 = .ok (.aload_n 0, 1) := by decide +kernel
theorem dX5_tellDay_103 : decode cX5_tellDay 103 = .ok (.iload_n 3, 1) := by decide +kernel
theorem dX5_tellDay_104 : decode cX5_tellDay 104 = .ok (.invokevirtual 145, 3) := by decide +kernel
theorem dX5_tellDay_107 : decode cX5_tellDay 107 = .ok (.goto 4, 3) := by decide +kernel
theorem dX5_tellDay_110 : decode cX5_tellDay 110 = .ok (.iload_n 2, 1) := by decide +kernel
theorem dX5_tellDay_111 : decode cX5_tellDay 111 = .ok (.istore_n 2, 1) := by decide +kernel
theorem dX5_tellDay_112 : decode cX5_tellDay 112 = .ok (.iinc 3 1, 3) := by decide +kernel
theorem dX5_tellDay_115 : decode cX5_tellDay 115 = .ok (.goto (-30), 3) := by decide +kernel
theorem dX5_tellDay_118 : decode cX5_tellDay 118 = .ok (.iload_n 2, 1) := by decide +kernel
theorem dX5_tellDay_119 : decode cX5_tellDay 119 = .ok (.ireturn, 1) := by decide +kernel
set_option maxRecDepth 20000 in
theorem ggX5_unlawful_X5_unlawfulNow : GoodIn wsX5_unlawful wsX5_unlawfulNow := goodIn_r _ [6, 1, 7, 8, 9, 5, 10, 11, 12, 13, 14, 15, 16, 17, 18, 19, 20, 21, 22, 23, 24, 25, 26, 27, 28, 29, 30, 31, 32, 33, 34, 35, 36, 37, 38, 39, 40, 41, 42, 43, 44, 45, 46, 47, 48, 49, 50, 51, 52, 53] (by decide +kernel) (by decide +kernel)
set_option maxRecDepth 20000 in
theorem gX5_unlawful_X5_unlawfulNow : GoodIn wsX5_unlawful (wsV RX5 198 RX5 yX5_unlawfulNow wsX5_unlawfulNow) := goodIn_app (goodIn_of _ (by decide +kernel)) ggX5_unlawful_X5_unlawfulNow
theorem dX5_unlawful_0 : decode cX5_unlawful 0 = .ok (.aload_n 0, 1) := by decide +kernel
theorem dX5_unlawful_1 : decode cX5_unlawful 1 = .ok (.getfield 68, 3) := by decide +kernel
theorem dX5_unlawful_4 : decode cX5_unlawful 4 = .ok (.ifCond .ne 8, 3) := by decide +kernel
theorem dX5_unlawful_7 : decode cX5_unlawful 7 = .ok (.bipush (-3), 2) := by decide +kernel
theorem dX5_unlawful_9 : decode cX5_unlawful 9 = .ok (.goto 7, 3) := by decide +kernel
theorem dX5_unlawful_12 : decode cX5_unlawful 12 = .ok (.aload_n 0, 1) := by decide +kernel
theorem dX5_unlawful_13 : decode cX5_unlawful 13 = .ok (.invokevirtual 198, 3) := by decide +kernel
theorem dX5_unlawful_16 : decode cX5_unlawful 16 = .ok (.ireturn, 1) := by decide +kernel
theorem dX5_findFar_0 : decode cX5_findFar 0 = .ok (.iconst 0, 1) := by decide +kernel
theorem dX5_findFar_1 : decode cX5_findFar 1 = .ok (.istore_n 2, 1) := by decide +kernel
theorem dX5_findFar_2 : decode cX5_findFar 2 = .ok (.iload_n 2, 1) := by decide +kernel
theorem dX5_findFar_3 : decode cX5_findFar 3 = .ok (.bipush 6, 2) := by decide +kernel
theorem dX5_findFar_5 : decode cX5_findFar 5 = .ok (.if_icmp .gt 26, 3) := by decide +kernel
theorem dX5_findFar_8 : decode cX5_findFar 8 = .ok (.aload_n 0, 1) := by decide +kernel
theorem dX5_findFar_9 : decode cX5_findFar 9 = .ok (.getfield 46, 3) := by decide +kernel
theorem dX5_findFar_12 : decode cX5_findFar 12 = .ok (.iload_n 2, 1) := by decide +kernel
theorem dX5_findFar_13 : decode cX5_findFar 13 = .ok (.iload_n 2, 1) := by decide +kernel
theorem dX5_findFar_14 : decode cX5_findFar 14 = .ok (.iload_n 1, 1) := by decide +kernel
theorem dX5_findFar_15 : decode cX5_findFar 15 = .ok (.if_icmp .ne 7, 3) := by decide +kernel
theorem dX5_findFar_18 : decode cX5_findFar 18 = .ok (.iconst 0, 1) := by decide +kernel
theorem dX5_findFar_19 : decode cX5_findFar 19 = .ok (.goto 5, 3) := by decide +kernel
theorem dX5_findFar_22 : decode cX5_findFar 22 = .ok (.bipush (-9), 2) := by decide +kernel
theorem dX5_findFar_24 : decode cX5_findFar 24 = .ok (.iastore, 1) := by decide +kernel
theorem dX5_findFar_25 : decode cX5_findFar 25 = .ok (.iinc 2 1, 3) := by decide +kernel
theorem dX5_findFar_28 : decode cX5_findFar 28 = .ok (.goto (-26), 3) := by decide +kernel
theorem dX5_findFar_31 : decode cX5_findFar 31 = .ok (.iconst 1, 1) := by decide +kernel
theorem dX5_findFar_32 : decode cX5_findFar 32 = .ok (.istore_n 2, 1) := by decide +kernel
theorem dX5_findFar_33 : decode cX5_findFar 33 = .ok (.iload_n 2, 1) := by decide +kernel
theorem dX5_findFar_34 : decode cX5_findFar 34 = .ok (.bipush 6, 2) := by decide +kernel
theorem dX5_findFar_36 : decode cX5_findFar 36 = .ok (.if_icmp .gt 126, 3) := by decide +kernel
theorem dX5_findFar_39 : decode cX5_findFar 39 = .ok (.iconst 0, 1) := by decide +kernel
theorem dX5_findFar_40 : decode cX5_findFar 40 = .ok (.istore_n 3, 1) := by decide +kernel
theorem dX5_findFar_41 : decode cX5_findFar 41 = .ok (.iload_n 3, 1) := by decide +kernel
theorem dX5_findFar_42 : decode cX5_findFar 42 = .ok (.aload_n 0, 1) := by decide +kernel
theorem dX5_findFar_43 : decode cX5_findFar 43 = .ok (.getfield 109, 3) := by decide +kernel
theorem dX5_findFar_46 : decode cX5_findFar 46 = .ok (.if_icmp .ge 110, 3) := by decide +kernel
theorem dX5_findFar_49 : decode cX5_findFar 49 = .ok (.aload_n 0, 1) := by decide +kernel
theorem dX5_findFar_50 : decode cX5_findFar 50 = .ok (.getfield 25, 3) := by decide +kernel
theorem dX5_findFar_53 : decode cX5_findFar 53 = .ok (.iload_n 3, 1) := by decide +kernel
theorem dX5_findFar_54 : decode cX5_findFar 54 = .ok (.iaload, 1) := by decide +kernel
theorem dX5_findFar_55 : decode cX5_findFar 55 = .ok (.aload_n 0, 1) := by decide +kernel
theorem dX5_findFar_56 : decode cX5_findFar 56 = .ok (.getfield 22, 3) := by decide +kernel
theorem dX5_findFar_59 : decode cX5_findFar 59 = .ok (.iload_n 1, 1) := by decide +kernel
theorem dX5_findFar_60 : decode cX5_findFar 60 = .ok (.iaload, 1) := by decide +kernel
theorem dX5_findFar_61 : decode cX5_findFar 61 = .ok (.if_icmp .eq 39, 3) := by decide +kernel
theorem dX5_findFar_64 : decode cX5_findFar 64 = .ok (.aload_n 0, 1) := by decide +kernel
theorem dX5_findFar_65 : decode cX5_findFar 65 = .ok (.getfield 28, 3) := by decide +kernel
theorem dX5_findFar_68 : decode cX5_findFar 68 = .ok (.iload_n 3, 1) := by decide +kernel
theorem dX5_findFar_69 : decode cX5_findFar 69 = .ok (.iaload, 1) := by decide +kernel
theorem dX5_findFar_70 : decode cX5_findFar 70 = .ok (.aload_n 0, 1) := by decide +kernel
theorem dX5_findFar_71 : decode cX5_findFar 71 = .ok (.getfield 22, 3) := by decide +kernel
theorem dX5_findFar_74 : decode cX5_findFar 74 = .ok (.iload_n 1, 1) := by decide +kernel
theorem dX5_findFar_75 : decode cX5_findFar 75 = .ok (.iaload, 1) := by decide +kernel
theorem dX5_findFar_76 : decode cX5_findFar 76 = .ok (.if_icmp .eq 24, 3) := by decide +kernel
theorem dX5_findFar_79 : decode cX5_findFar 79 = .ok (.aload_n 0, 1) := by decide +kernel
theorem dX5_findFar_80 : decode cX5_findFar 80 = .ok (.getfield 46, 3) := by decide +kernel
theorem dX5_findFar_83 : decode cX5_findFar 83 = .ok (.aload_n 0, 1) := by decide +kernel
theorem dX5_findFar_84 : decode cX5_findFar 84 = .ok (.getfield 28, 3) := by decide +kernel
theorem dX5_findFar_87 : decode cX5_findFar 87 = .ok (.iload_n 3, 1) := by decide +kernel
theorem dX5_findFar_88 : decode cX5_findFar 88 = .ok (.iaload, 1) := by decide +kernel
theorem dX5_findFar_89 : decode cX5_findFar 89 = .ok (.iaload, 1) := by decide +kernel
theorem dX5_findFar_90 : decode cX5_findFar 90 = .ok (.iload_n 2, 1) := by decide +kernel
theorem dX5_findFar_91 : decode cX5_findFar 91 = .ok (.iconst 1, 1) := by decide +kernel
theorem dX5_findFar_92 : decode cX5_findFar 92 = .ok (.isub, 1) := by decide +kernel
theorem dX5_findFar_93 : decode cX5_findFar 93 = .ok (.if_icmp .ne 7, 3) := by decide +kernel
theorem dX5_findFar_96 : decode cX5_findFar 96 = .ok (.iconst 1, 1) := by decide +kernel
theorem dX5_findFar_97 : decode cX5_findFar 97 = .ok (.goto 4, 3) := by decide +kernel
theorem dX5_findFar_100 : decode cX5_findFar 100 = .ok (.iconst 0, 1) := by decide +kernel
theorem dX5_findFar_101 : decode cX5_findFar 101 = .ok (.istore 4, 2) := by decide +kernel
theorem dX5_findFar_103 : decode cX5_findFar 103 = .ok (.aload_n 0, 1) := by decide +kernel
theorem dX5_findFar_104 : decode cX5_findFar 104 = .ok (.getfield 46, 3) := by decide +kernel
theorem dX5_findFar_107 : decode cX5_findFar 107 = .ok (.aload_n 0, 1) := by decide +kernel
theorem dX5_findFar_108 : decode cX5_findFar 108 = .ok (.getfield 25, 3) := by decide +kernel
theorem dX5_findFar_111 : decode cX5_findFar 111 = .ok (.iload_n 3, 1) := by decide +kernel
theorem dX5_findFar_112 : decode cX5_findFar 112 = .ok (.iaload, 1) := by decide +kernel
theorem dX5_findFar_113 : decode cX5_findFar 113 = .ok (.iload 4, 2) := by decide +kernel
theorem dX5_findFar_115 : decode cX5_findFar 115 = .ok (.ifCond .eq 23, 3) := by decide +kernel
theorem dX5_findFar_118 : decode cX5_findFar 118 = .ok (.aload_n 0, 1) := by decide +kernel
theorem dX5_findFar_119 : decode cX5_findFar 119 = .ok (.getfield 46, 3) := by decide +kernel
theorem dX5_findFar_122 : decode cX5_findFar 122 = .ok (.aload_n 0, 1) := by decide +kernel
theorem dX5_findFar_123 : decode cX5_findFar 123 = .ok (.getfield 25, 3) := by decide +kernel
theorem dX5_findFar_126 : decode cX5_findFar 126 = .ok (.iload_n 3, 1) := by decide +kernel
theorem dX5_findFar_127 : decode cX5_findFar 127 = .ok (.iaload, 1) := by decide +kernel
theorem dX5_findFar_128 : decode cX5_findFar 128 = .ok (.iaload, 1) := by decide +kernel
theorem dX5_findFar_129 : decode cX5_findFar 129 = .ok (.bipush (-9), 2) := by decide +kernel
theorem dX5_findFar_131 : decode cX5_findFar 131 = .ok (.if_icmp .ne 7, 3) := by decide +kernel
theorem dX5_findFar_134 : decode cX5_findFar 134 = .ok (.iload_n 2, 1) := by decide +kernel
theorem dX5_findFar_135 : decode cX5_findFar 135 = .ok (.goto 14, 3) := by decide +kernel
theorem dX5_findFar_138 : decode cX5_findFar 138 = .ok (.aload_n 0, 1) := by decide +kernel
theorem dX5_findFar_139 : decode cX5_findFar 139 = .ok (.getfield 46, 3) := by decide +kernel
theorem dX5_findFar_142 : decode cX5_findFar 142 = .ok (.aload_n 0, 1) := by decide +kernel
theorem dX5_findFar_143 : decode cX5_findFar 143 = .ok (.getfield 25, 3) := by decide +kernel
theorem dX5_findFar_146 : decode cX5_findFar 146 = .ok (.iload_n 3, 1) := by decide +kernel
theorem dX5_findFar_147 : decode cX5_findFar 147 = .ok (.iaload, 1) := by decide +kernel
theorem dX5_findFar_148 : decode cX5_findFar 148 = .ok (.iaload, 1) := by decide +kernel
theorem dX5_findFar_149 : decode cX5_findFar 149 = .ok (.iastore, 1) := by decide +kernel
theorem dX5_findFar_150 : decode cX5_findFar 150 = .ok (.iinc 3 1, 3) := by decide +kernel
theorem dX5_findFar_153 : decode cX5_findFar 153 = .ok (.goto (-112), 3) := by decide +kernel
theorem dX5_findFar_156 : decode cX5_findFar 156 = .ok (.iinc 2 1, 3) := by decide +kernel
theorem dX5_findFar_159 : decode cX5_findFar 159 = .ok (.goto (-126), 3) := by decide +kernel
theorem dX5_findFar_162 : decode cX5_findFar 162 = .ok (.return_, 1) := by decide +kernel
set_option maxRecDepth 20000 in
theorem ggX5_past_X5_isThing : GoodIn wsX5_past wsX5_isThing := goodIn_r _ [7, 8, 23, 24, 25, 26, 27, 28, 29, 30, 31, 32, 33, 34, 35, 36, 37, 38, 39, 40, 41, 42, 43, 44, 45, 46] (by decide +kernel) (by decide +kernel)
set_option maxRecDepth 20000 in
theorem gX5_past_X5_isThing : GoodIn wsX5_past (wsV RX5 71 RX5 yX5_isThing wsX5_isThing) := goodIn_app (goodIn_of _ (by decide +kernel)) ggX5_past_X5_isThing
set_option maxRecDepth 20000 in
theorem ggX5_past_X5_within : GoodIn wsX5_past wsX5_within := goodIn_r _ [11] (by decide +kernel) (by decide +kernel)
set_option maxRecDepth 20000 in
theorem gX5_past_X5_within : GoodIn wsX5_past (va_wsS RX5 64 yX5_within wsX5_within) := goodIn_app (goodIn_of _ (by decide +kernel)) ggX5_past_X5_within
set_option maxRecDepth 20000 in
theorem ggX5_past_X5_findFar : GoodIn wsX5_past wsX5_findFar := goodIn_r _ [15, 2, 16, 17, 1, 18, 23, 24, 25, 26, 27, 28, 29, 30, 31, 32, 33, 34, 35, 36, 37, 38, 39, 40, 41, 42, 43, 44, 45, 46] (by decide +kernel) (by decide +kernel)
set_option maxRecDepth 20000 in
theorem gX5_past_X5_findFar : GoodIn wsX5_past (wsV RX5 202 RX5 yX5_findFar wsX5_findFar) := goodIn_app (goodIn_of _ (by decide +kernel)) ggX5_past_X5_findFar
set_option maxRecDepth 20000 in
theorem ggX5_past_X5_placeOf : GoodIn wsX5_past wsX5_placeOf := goodIn_r _ [22, 16, 17, 18, 23, 24, 25, 26, 27, 28, 29, 30, 31, 32, 33, 34, 35, 36, 37, 38, 39, 40, 41, 42, 43, 44, 45, 46] (by decide +kernel) (by decide +kernel)
set_option maxRecDepth 20000 in
theorem gX5_past_X5_placeOf : GoodIn wsX5_past (wsV RX5 160 RX5 yX5_placeOf wsX5_placeOf) := goodIn_app (goodIn_of _ (by decide +kernel)) ggX5_past_X5_placeOf
theorem dX5_past_0 : decode cX5_past 0 = .ok (.aload_n 0, 1) := by decide +kernel
theorem dX5_past_1 : decode cX5_past 1 = .ok (.iload_n 1, 1) := by decide +kernel
theorem dX5_past_2 : decode cX5_past 2 = .ok (.invokevirtual 71, 3) := by decide +kernel
theorem dX5_past_5 : decode cX5_past 5 = .ok (.ifCond .ne 5, 3) := by decide +kernel
theorem dX5_past_8 : decode cX5_past 8 = .ok (.iconst (-1), 1) := by decide +kernel
theorem dX5_past_9 : decode cX5_past 9 = .ok (.ireturn, 1) := by decide +kernel
theorem dX5_past_10 : decode cX5_past 10 = .ok (.iload_n 2, 1) := by decide +kernel
theorem dX5_past_11 : decode cX5_past 11 = .ok (.iconst (-1), 1) := by decide +kernel
theorem dX5_past_12 : decode cX5_past 12 = .ok (.iconst 5, 1) := by decide +kernel
theorem dX5_past_13 : decode cX5_past 13 = .ok (.invokestatic 64, 3) := by decide +kernel
theorem dX5_past_16 : decode cX5_past 16 = .ok (.ifCond .ne 6, 3) := by decide +kernel
theorem dX5_past_19 : decode cX5_past 19 = .ok (.bipush (-2), 2) := by decide +kernel
theorem dX5_past_21 : decode cX5_past 21 = .ok (.ireturn, 1) := by decide +kernel
theorem dX5_past_22 : decode cX5_past 22 = .ok (.aload_n 0, 1) := by decide +kernel
theorem dX5_past_23 : decode cX5_past 23 = .ok (.getfield 22, 3) := by decide +kernel
theorem dX5_past_26 : decode cX5_past 26 = .ok (.iload_n 1, 1) := by decide +kernel
theorem dX5_past_27 : decode cX5_past 27 = .ok (.iaload, 1) := by decide +kernel
theorem dX5_past_28 : decode cX5_past 28 = .ok (.bipush 6, 2) := by decide +kernel
theorem dX5_past_30 : decode cX5_past 30 = .ok (.if_icmp .ne 6, 3) := by decide +kernel
theorem dX5_past_33 : decode cX5_past 33 = .ok (.bipush (-9), 2) := by decide +kernel
theorem dX5_past_35 : decode cX5_past 35 = .ok (.ireturn, 1) := by decide +kernel
theorem dX5_past_36 : decode cX5_past 36 = .ok (.aload_n 0, 1) := by decide +kernel
theorem dX5_past_37 : decode cX5_past 37 = .ok (.iload_n 1, 1) := by decide +kernel
theorem dX5_past_38 : decode cX5_past 38 = .ok (.invokevirtual 202, 3) := by decide +kernel
theorem dX5_past_41 : decode cX5_past 41 = .ok (.iload_n 2, 1) := by decide +kernel
theorem dX5_past_42 : decode cX5_past 42 = .ok (.iconst (-1), 1) := by decide +kernel
theorem dX5_past_43 : decode cX5_past 43 = .ok (.if_icmp .ne 11, 3) := by decide +kernel
theorem dX5_past_46 : decode cX5_past 46 = .ok (.aload_n 0, 1) := by decide +kernel
theorem dX5_past_47 : decode cX5_past 47 = .ok (.getfield 46, 3) := by decide +kernel
theorem dX5_past_50 : decode cX5_past 50 = .ok (.bipush 6, 2) := by decide +kernel
theorem dX5_past_52 : decode cX5_past 52 = .ok (.iaload, 1) := by decide +kernel
theorem dX5_past_53 : decode cX5_past 53 = .ok (.ireturn, 1) := by decide +kernel
theorem dX5_past_54 : decode cX5_past 54 = .ok (.iload_n 2, 1) := by decide +kernel
theorem dX5_past_55 : decode cX5_past 55 = .ok (.aload_n 0, 1) := by decide +kernel
theorem dX5_past_56 : decode cX5_past 56 = .ok (.getfield 46, 3) := by decide +kernel
theorem dX5_past_59 : decode cX5_past 59 = .ok (.bipush 6, 2) := by decide +kernel
theorem dX5_past_61 : decode cX5_past 61 = .ok (.iaload, 1) := by decide +kernel
theorem dX5_past_62 : decode cX5_past 62 = .ok (.if_icmp .lt 6, 3) := by decide +kernel
theorem dX5_past_65 : decode cX5_past 65 = .ok (.bipush (-9), 2) := by decide +kernel
theorem dX5_past_67 : decode cX5_past 67 = .ok (.ireturn, 1) := by decide +kernel
theorem dX5_past_68 : decode cX5_past 68 = .ok (.bipush 6, 2) := by decide +kernel
theorem dX5_past_70 : decode cX5_past 70 = .ok (.istore_n 3, 1) := by decide +kernel
theorem dX5_past_71 : decode cX5_past 71 = .ok (.iconst 0, 1) := by decide +kernel
theorem dX5_past_72 : decode cX5_past 72 = .ok (.istore 4, 2) := by decide +kernel
theorem dX5_past_74 : decode cX5_past 74 = .ok (.iload 4, 2) := by decide +kernel
theorem dX5_past_76 : decode cX5_past 76 = .ok (.iload_n 2, 1) := by decide +kernel
theorem dX5_past_77 : decode cX5_past 77 = .ok (.if_icmp .gt 62, 3) := by decide +kernel
theorem dX5_past_80 : decode cX5_past 80 = .ok (.iconst 0, 1) := by decide +kernel
theorem dX5_past_81 : decode cX5_past 81 = .ok (.istore 5, 2) := by decide +kernel
theorem dX5_past_83 : decode cX5_past 83 = .ok (.aload_n 0, 1) := by decide +kernel
theorem dX5_past_84 : decode cX5_past 84 = .ok (.iload_n 3, 1) := by decide +kernel
theorem dX5_past_85 : decode cX5_past 85 = .ok (.iload 5, 2) := by decide +kernel
theorem dX5_past_87 : decode cX5_past 87 = .ok (.invokevirtual 160, 3) := by decide +kernel
theorem dX5_past_90 : decode cX5_past 90 = .ok (.bipush (-9), 2) := by decide +kernel
theorem dX5_past_92 : decode cX5_past 92 = .ok (.if_icmp .eq 32, 3) := by decide +kernel
theorem dX5_past_95 : decode cX5_past 95 = .ok (.iload 5, 2) := by decide +kernel
theorem dX5_past_97 : decode cX5_past 97 = .ok (.aload_n 0, 1) := by decide +kernel
theorem dX5_past_98 : decode cX5_past 98 = .ok (.getfield 22, 3) := by decide +kernel
theorem dX5_past_101 : decode cX5_past 101 = .ok (.iload_n 1, 1) := by decide +kernel
theorem dX5_past_102 : decode cX5_past 102 = .ok (.iaload, 1) := by decide +kernel
theorem dX5_past_103 : decode cX5_past 103 = .ok (.if_icmp .eq 21, 3) := by decide +kernel
theorem dX5_past_106 : decode cX5_past 106 = .ok (.aload_n 0, 1) := by decide +kernel
theorem dX5_past_107 : decode cX5_past 107 = .ok (.getfield 46, 3) := by decide +kernel
theorem dX5_past_110 : decode cX5_past 110 = .ok (.iload 5, 2) := by decide +kernel
theorem dX5_past_112 : decode cX5_past 112 = .ok (.iaload, 1) := by decide +kernel
theorem dX5_past_113 : decode cX5_past 113 = .ok (.aload_n 0, 1) := by decide +kernel
theorem dX5_past_114 : decode cX5_past 114 = .ok (.getfield 46, 3) := by decide +kernel
theorem dX5_past_117 : decode cX5_past 117 = .ok (.iload_n 3, 1) := by decide +kernel
theorem dX5_past_118 : decode cX5_past 118 = .ok (.iaload, 1) := by decide +kernel
theorem dX5_past_119 : decode cX5_past 119 = .ok (.iconst 1, 1) := by decide +kernel
theorem dX5_past_120 : decode cX5_past 120 = .ok (.isub, 1) := by decide +kernel
theorem dX5_past_121 : decode cX5_past 121 = .ok (.if_icmp .eq 9, 3) := by decide +kernel
theorem dX5_past_124 : decode cX5_past 124 = .ok (.iinc 5 1, 3) := by decide +kernel
theorem dX5_past_127 : decode cX5_past 127 = .ok (.goto (-44), 3) := by decide +kernel
theorem dX5_past_130 : decode cX5_past 130 = .ok (.iload 5, 2) := by decide +kernel
theorem dX5_past_132 : decode cX5_past 132 = .ok (.istore_n 3, 1) := by decide +kernel
theorem dX5_past_133 : decode cX5_past 133 = .ok (.iinc 4 1, 3) := by decide +kernel
theorem dX5_past_136 : decode cX5_past 136 = .ok (.goto (-62), 3) := by decide +kernel
theorem dX5_past_139 : decode cX5_past 139 = .ok (.iload_n 3, 1) := by decide +kernel
theorem dX5_past_140 : decode cX5_past 140 = .ok (.ireturn, 1) := by decide +kernel
set_option maxRecDepth 20000 in
theorem ggX5_locks_X5_isSheet : GoodIn wsX5_locks wsX5_isSheet := goodIn_r _ [7, 8, 9, 6, 10] (by decide +kernel) (by decide +kernel)
set_option maxRecDepth 20000 in
theorem gX5_locks_X5_isSheet : GoodIn wsX5_locks (va_wsS RX5 86 yX5_isSheet wsX5_isSheet) := goodIn_app (goodIn_of _ (by decide +kernel)) ggX5_locks_X5_isSheet
set_option maxRecDepth 20000 in
theorem ggX5_locks_X5_isSort : GoodIn wsX5_locks wsX5_isSort := goodIn_r _ [13, 8, 9, 6, 10] (by decide +kernel) (by decide +kernel)
set_option maxRecDepth 20000 in
theorem gX5_locks_X5_isSort : GoodIn wsX5_locks (va_wsS RX5 89 yX5_isSort wsX5_isSort) := goodIn_app (goodIn_of _ (by decide +kernel)) ggX5_locks_X5_isSort
set_option maxRecDepth 20000 in
theorem ggX5_locks_X5_within : GoodIn wsX5_locks wsX5_within := goodIn_r _ [10] (by decide +kernel) (by decide +kernel)
set_option maxRecDepth 20000 in
theorem gX5_locks_X5_within : GoodIn wsX5_locks (va_wsS RX5 64 yX5_within wsX5_within) := goodIn_app (goodIn_of _ (by decide +kernel)) ggX5_locks_X5_within
set_option maxRecDepth 20000 in
theorem ggX5_locks_X5_against : GoodIn wsX5_locks wsX5_against := goodIn_r _ [17, 18, 19, 38, 39, 40, 41, 42, 43, 44, 45, 46, 47, 48, 49, 50, 51, 52, 53, 54, 55, 56, 57, 58, 59, 60, 61] (by decide +kernel) (by decide +kernel)
set_option maxRecDepth 20000 in
theorem gX5_locks_X5_against : GoodIn wsX5_locks (wsV RX5 92 RX5 yX5_against wsX5_against) := goodIn_app (goodIn_of _ (by decide +kernel)) ggX5_locks_X5_against
set_option maxRecDepth 20000 in
theorem ggX5_locks_X5_fails : GoodIn wsX5_locks wsX5_fails := goodIn_r _ [23, 1, 38, 39, 40, 41, 42, 43, 44, 45, 46, 47, 48, 49, 50, 51, 52, 53, 54, 55, 56, 57, 58, 59, 60, 61] (by decide +kernel) (by decide +kernel)
set_option maxRecDepth 20000 in
theorem gX5_locks_X5_fails : GoodIn wsX5_locks (wsV RX5 96 RX5 yX5_fails wsX5_fails) := goodIn_app (goodIn_of _ (by decide +kernel)) ggX5_locks_X5_fails
set_option maxRecDepth 20000 in
theorem ggX5_locks_X5_isThing : GoodIn wsX5_locks wsX5_isThing := goodIn_r _ [27, 2, 38, 39, 40, 41, 42, 43, 44, 45, 46, 47, 48, 49, 50, 51, 52, 53, 54, 55, 56, 57, 58, 59, 60, 61] (by decide +kernel) (by decide +kernel)
set_option maxRecDepth 20000 in
theorem gX5_locks_X5_isThing : GoodIn wsX5_locks (wsV RX5 71 RX5 yX5_isThing wsX5_isThing) := goodIn_app (goodIn_of _ (by decide +kernel)) ggX5_locks_X5_isThing
set_option maxRecDepth 20000 in
theorem ggX5_locks_X5_lockOf : GoodIn wsX5_locks wsX5_lockOf := goodIn_r _ [31, 32, 33, 34, 35, 6, 36, 37, 38, 39, 40, 41, 42, 43, 44, 45, 46, 47, 48, 49, 50, 51, 52, 53, 54, 55, 56, 57, 58, 59, 60, 61] (by decide +kernel) (by decide +kernel)
set_option maxRecDepth 20000 in
theorem gX5_locks_X5_lockOf : GoodIn wsX5_locks (wsV RX5 145 RX5 yX5_lockOf wsX5_lockOf) := goodIn_app (goodIn_of _ (by decide +kernel)) ggX5_locks_X5_lockOf
theorem dX5_locks_0 : decode cX5_locks 0 = .ok (.aload_n 0, 1) := by decide +kernel
theorem dX5_locks_1 : decode cX5_locks 1 = .ok (.iconst 0, 1) := by decide +kernel
theorem dX5_locks_2 : decode cX5_locks 2 = .ok (.putfield 58, 3) := by decide +kernel
theorem dX5_locks_5 : decode cX5_locks 5 = .ok (.iload_n 1, 1) := by decide +kernel
theorem dX5_locks_6 : decode cX5_locks 6 = .ok (.invokestatic 86, 3) := by decide +kernel
theorem dX5_locks_9 : decode cX5_locks 9 = .ok (.ifCond .ne 5, 3) := by decide +kernel
theorem dX5_locks_12 : decode cX5_locks 12 = .ok (.iconst (-1), 1) := by decide +kernel
theorem dX5_locks_13 : decode cX5_locks 13 = .ok (.ireturn, 1) := by decide +kernel
theorem dX5_locks_14 : decode cX5_locks 14 = .ok (.iload_n 2, 1) := by decide +kernel
theorem dX5_locks_15 : decode cX5_locks 15 = .ok (.invokestatic 89, 3) := by decide +kernel
theorem dX5_locks_18 : decode cX5_locks 18 = .ok (.ifCond .eq 14, 3) := by decide +kernel
theorem dX5_locks_21 : decode cX5_locks 21 = .ok (.iload 4, 2) := by decide +kernel
theorem dX5_locks_23 : decode cX5_locks 23 = .ok (.iconst 0, 1) := by decide +kernel
theorem dX5_locks_24 : decode cX5_locks 24 = .ok (.bipush 20, 2) := by decide +kernel
theorem dX5_locks_26 : decode cX5_locks 26 = .ok (.invokestatic 64, 3) := by decide +kernel
theorem dX5_locks_29 : decode cX5_locks 29 = .ok (.ifCond .ne 6, 3) := by decide +kernel
theorem dX5_locks_32 : decode cX5_locks 32 = .ok (.bipush (-2), 2) := by decide +kernel
theorem dX5_locks_34 : decode cX5_locks 34 = .ok (.ireturn, 1) := by decide +kernel
theorem dX5_locks_35 : decode cX5_locks 35 = .ok (.aload_n 0, 1) := by decide +kernel
theorem dX5_locks_36 : decode cX5_locks 36 = .ok (.iload_n 1, 1) := by decide +kernel
theorem dX5_locks_37 : decode cX5_locks 37 = .ok (.iload_n 2, 1) := by decide +kernel
theorem dX5_locks_38 : decode cX5_locks 38 = .ok (.iload_n 3, 1) := by decide +kernel
theorem dX5_locks_39 : decode cX5_locks 39 = .ok (.iload 4, 2) := by decide +kernel
theorem dX5_locks_41 : decode cX5_locks 41 = .ok (.invokevirtual 92, 3) := by decide +kernel
theorem dX5_locks_44 : decode cX5_locks 44 = .ok (.istore 5, 2) := by decide +kernel
theorem dX5_locks_46 : decode cX5_locks 46 = .ok (.iload 5, 2) := by decide +kernel
theorem dX5_locks_48 : decode cX5_locks 48 = .ok (.ifCond .eq 10, 3) := by decide +kernel
theorem dX5_locks_51 : decode cX5_locks 51 = .ok (.aload_n 0, 1) := by decide +kernel
theorem dX5_locks_52 : decode cX5_locks 52 = .ok (.iload 5, 2) := by decide +kernel
theorem dX5_locks_54 : decode cX5_locks 54 = .ok (.invokevirtual 96, 3) := by decide +kernel
theorem dX5_locks_57 : decode cX5_locks 57 = .ok (.ireturn, 1) := by decide +kernel
theorem dX5_locks_58 : decode cX5_locks 58 = .ok (.aload_n 0, 1) := by decide +kernel
theorem dX5_locks_59 : decode cX5_locks 59 = .ok (.getfield 68, 3) := by decide +kernel
theorem dX5_locks_62 : decode cX5_locks 62 = .ok (.ifCond .ne 6, 3) := by decide +kernel
theorem dX5_locks_65 : decode cX5_locks 65 = .ok (.bipush (-3), 2) := by decide +kernel
theorem dX5_locks_67 : decode cX5_locks 67 = .ok (.ireturn, 1) := by decide +kernel
theorem dX5_locks_68 : decode cX5_locks 68 = .ok (.bipush 60, 2) := by decide +kernel
theorem dX5_locks_70 : decode cX5_locks 70 = .ok (.iload_n 1, 1) := by decide +kernel
theorem dX5_locks_71 : decode cX5_locks 71 = .ok (.imul, 1) := by decide +kernel
theorem dX5_locks_72 : decode cX5_locks 72 = .ok (.iload_n 3, 1) := by decide +kernel
theorem dX5_locks_73 : decode cX5_locks 73 = .ok (.iadd, 1) := by decide +kernel
theorem dX5_locks_74 : decode cX5_locks 74 = .ok (.istore 6, 2) := by decide +kernel
theorem dX5_locks_76 : decode cX5_locks 76 = .ok (.iconst 0, 1) := by decide +kernel
theorem dX5_locks_77 : decode cX5_locks 77 = .ok (.istore 7, 2) := by decide +kernel
theorem dX5_locks_79 : decode cX5_locks 79 = .ok (.iload 7, 2) := by decide +kernel
theorem dX5_locks_81 : decode cX5_locks 81 = .ok (.iload 4, 2) := by decide +kernel
theorem dX5_locks_83 : decode cX5_locks 83 = .ok (.if_icmp .ge 28, 3) := by decide +kernel
theorem dX5_locks_86 : decode cX5_locks 86 = .ok (.aload_n 0, 1) := by decide +kernel
theorem dX5_locks_87 : decode cX5_locks 87 = .ok (.aload_n 0, 1) := by decide +kernel
theorem dX5_locks_88 : decode cX5_locks 88 = .ok (.getfield 16, 3) := by decide +kernel
theorem dX5_locks_91 : decode cX5_locks 91 = .ok (.iload 6, 2) := by decide +kernel
theorem dX5_locks_93 : decode cX5_locks 93 = .ok (.iload 7, 2) := by decide +kernel
theorem dX5_locks_95 : decode cX5_locks 95 = .ok (.iadd, 1) := by decide +kernel
theorem dX5_locks_96 : decode cX5_locks 96 = .ok (.iaload, 1) := by decide +kernel
theorem dX5_locks_97 : decode cX5_locks 97 = .ok (.invokevirtual 71, 3) := by decide +kernel
theorem dX5_locks_100 : decode cX5_locks 100 = .ok (.ifCond .ne 5, 3) := by decide +kernel
theorem dX5_locks_103 : decode cX5_locks 103 = .ok (.iconst (-1), 1) := by decide +kernel
theorem dX5_locks_104 : decode cX5_locks 104 = .ok (.ireturn, 1) := by decide +kernel
theorem dX5_locks_105 : decode cX5_locks 105 = .ok (.iinc 7 1, 3) := by decide +kernel
theorem dX5_locks_108 : decode cX5_locks 108 = .ok (.goto (-29), 3) := by decide +kernel
theorem dX5_locks_111 : decode cX5_locks 111 = .ok (.bipush (-9), 2) := by decide +kernel
theorem dX5_locks_113 : decode cX5_locks 113 = .ok (.istore 7, 2) := by decide +kernel
theorem dX5_locks_115 : decode cX5_locks 115 = .ok (.iconst 0, 1) := by decide +kernel
theorem dX5_locks_116 : decode cX5_locks 116 = .ok (.istore 8, 2) := by decide +kernel
theorem dX5_locks_118 : decode cX5_locks 118 = .ok (.iload 8, 2) := by decide +kernel
theorem dX5_locks_120 : decode cX5_locks 120 = .ok (.iload 4, 2) := by decide +kernel
theorem dX5_locks_122 : decode cX5_locks 122 = .ok (.if_icmp .ge 47, 3) := by decide +kernel
theorem dX5_locks_125 : decode cX5_locks 125 = .ok (.aload_n 0, 1) := by decide +kernel
theorem dX5_locks_126 : decode cX5_locks 126 = .ok (.aload_n 0, 1) := by decide +kernel
theorem dX5_locks_127 : decode cX5_locks 127 = .ok (.getfield 16, 3) := by decide +kernel
theorem dX5_locks_130 : decode cX5_locks 130 = .ok (.iload 6, 2) := by decide +kernel
theorem dX5_locks_132 : decode cX5_locks 132 = .ok (.iload 8, 2) := by decide +kernel
theorem dX5_locks_134 : decode cX5_locks 134 = .ok (.iadd, 1) := by decide +kernel
theorem dX5_locks_135 : decode cX5_locks 135 = .ok (.iaload, 1) := by decide +kernel
theorem dX5_locks_136 : decode cX5_locks 136 = .ok (.invokevirtual 145, 3) := by decide +kernel
theorem dX5_locks_139 : decode cX5_locks 139 = .ok (.iload 7, 2) := by decide +kernel
theorem dX5_locks_141 : decode cX5_locks 141 = .ok (.if_icmp .gt 6, 3) := by decide +kernel
theorem dX5_locks_144 : decode cX5_locks 144 = .ok (.iload 8, 2) := by decide +kernel
theorem dX5_locks_146 : decode cX5_locks 146 = .ok (.ireturn, 1) := by decide +kernel
theorem dX5_locks_147 : decode cX5_locks 147 = .ok (.aload_n 0, 1) := by decide +kernel
theorem dX5_locks_148 : decode cX5_locks 148 = .ok (.aload_n 0, 1) := by decide +kernel
theorem dX5_locks_149 : decode cX5_locks 149 = .ok (.getfield 16, 3) := by decide +kernel
theorem dX5_locks_152 : decode cX5_locks 152 = .ok (.iload 6, 2) := by decide +kernel
theorem dX5_locks_154 : decode cX5_locks 154 = .ok (.iload 8, 2) := by decide +kernel
theorem dX5_locks_156 : decode cX5_locks 156 = .ok (.iadd, 1) := by decide +kernel
theorem dX5_locks_157 : decode cX5_locks 157 = .ok (.iaload, 1) := by decide +kernel
theorem dX5_locks_158 : decode cX5_locks 158 = .ok (.invokevirtual 145, 3) := by decide +kernel
theorem dX5_locks_161 : decode cX5_locks 161 = .ok (.istore 7, 2) := by decide +kernel
theorem dX5_locks_163 : decode cX5_locks 163 = .ok (.iinc 8 1, 3) := by decide +kernel
theorem dX5_locks_166 : decode cX5_locks 166 = .ok (.goto (-48), 3) := by decide +kernel
theorem dX5_locks_169 : decode cX5_locks 169 = .ok (.iload 4, 2) := by decide +kernel
theorem dX5_locks_171 : decode cX5_locks 171 = .ok (.ireturn, 1) := by decide +kernel
set_option maxRecDepth 20000 in
theorem ggX5_reading_X5_isThing : GoodIn wsX5_reading wsX5_isThing := goodIn_r _ [9, 10, 14, 15, 16, 17, 18, 19, 20, 21, 22, 23, 24, 25, 26, 27, 28, 29, 30, 31, 32, 33, 34, 35, 36, 37] (by decide +kernel) (by decide +kernel)
set_option maxRecDepth 20000 in
theorem gX5_reading_X5_isThing : GoodIn wsX5_reading (wsV RX5 71 RX5 yX5_isThing wsX5_isThing) := goodIn_app (goodIn_of _ (by decide +kernel)) ggX5_reading_X5_isThing
set_option maxRecDepth 20000 in
theorem ggX5_reading_X5_within : GoodIn wsX5_reading wsX5_within := goodIn_r _ [13] (by decide +kernel) (by decide +kernel)
set_option maxRecDepth 20000 in
theorem gX5_reading_X5_within : GoodIn wsX5_reading (va_wsS RX5 64 yX5_within wsX5_within) := goodIn_app (goodIn_of _ (by decide +kernel)) ggX5_reading_X5_within
theorem dX5_reading_0 : decode cX5_reading 0 = .ok (.aload_n 0, 1) := by decide +kernel
theorem dX5_reading_1 : decode cX5_reading 1 = .ok (.iload_n 1, 1) := by decide +kernel
theorem dX5_reading_2 : decode cX5_reading 2 = .ok (.invokevirtual 71, 3) := by decide +kernel
theorem dX5_reading_5 : decode cX5_reading 5 = .ok (.ifCond .eq 16, 3) := by decide +kernel
theorem dX5_reading_8 : decode cX5_reading 8 = .ok (.aload_n 0, 1) := by decide +kernel
theorem dX5_reading_9 : decode cX5_reading 9 = .ok (.iload_n 2, 1) := by decide +kernel
theorem dX5_reading_10 : decode cX5_reading 10 = .ok (.invokevirtual 71, 3) := by decide +kernel
theorem dX5_reading_13 : decode cX5_reading 13 = .ok (.ifCond .eq 8, 3) := by decide +kernel
theorem dX5_reading_16 : decode cX5_reading 16 = .ok (.iload_n 1, 1) := by decide +kernel
theorem dX5_reading_17 : decode cX5_reading 17 = .ok (.iload_n 2, 1) := by decide +kernel
theorem dX5_reading_18 : decode cX5_reading 18 = .ok (.if_icmp .ne 5, 3) := by decide +kernel
theorem dX5_reading_21 : decode cX5_reading 21 = .ok (.iconst (-1), 1) := by decide +kernel
theorem dX5_reading_22 : decode cX5_reading 22 = .ok (.ireturn, 1) := by decide +kernel
theorem dX5_reading_23 : decode cX5_reading 23 = .ok (.iload_n 3, 1) := by decide +kernel
theorem dX5_reading_24 : decode cX5_reading 24 = .ok (.iconst 0, 1) := by decide +kernel
theorem dX5_reading_25 : decode cX5_reading 25 = .ok (.iconst 1, 1) := by decide +kernel
theorem dX5_reading_26 : decode cX5_reading 26 = .ok (.invokestatic 64, 3) := by decide +kernel
theorem dX5_reading_29 : decode cX5_reading 29 = .ok (.ifCond .ne 6, 3) := by decide +kernel
theorem dX5_reading_32 : decode cX5_reading 32 = .ok (.bipush (-2), 2) := by decide +kernel
theorem dX5_reading_34 : decode cX5_reading 34 = .ok (.ireturn, 1) := by decide +kernel
theorem dX5_reading_35 : decode cX5_reading 35 = .ok (.aload_n 0, 1) := by decide +kernel
theorem dX5_reading_36 : decode cX5_reading 36 = .ok (.getfield 112, 3) := by decide +kernel
theorem dX5_reading_39 : decode cX5_reading 39 = .ok (.bipush 8, 2) := by decide +kernel
theorem dX5_reading_41 : decode cX5_reading 41 = .ok (.if_icmp .ne 6, 3) := by decide +kernel
theorem dX5_reading_44 : decode cX5_reading 44 = .ok (.bipush (-4), 2) := by decide +kernel
theorem dX5_reading_46 : decode cX5_reading 46 = .ok (.ireturn, 1) := by decide +kernel
theorem dX5_reading_47 : decode cX5_reading 47 = .ok (.aload_n 0, 1) := by decide +kernel
theorem dX5_reading_48 : decode cX5_reading 48 = .ok (.getfield 49, 3) := by decide +kernel
theorem dX5_reading_51 : decode cX5_reading 51 = .ok (.aload_n 0, 1) := by decide +kernel
theorem dX5_reading_52 : decode cX5_reading 52 = .ok (.getfield 112, 3) := by decide +kernel
theorem dX5_reading_55 : decode cX5_reading 55 = .ok (.iload_n 1, 1) := by decide +kernel
theorem dX5_reading_56 : decode cX5_reading 56 = .ok (.iastore, 1) := by decide +kernel
theorem dX5_reading_57 : decode cX5_reading 57 = .ok (.aload_n 0, 1) := by decide +kernel
theorem dX5_reading_58 : decode cX5_reading 58 = .ok (.getfield 52, 3) := by decide +kernel
theorem dX5_reading_61 : decode cX5_reading 61 = .ok (.aload_n 0, 1) := by decide +kernel
theorem dX5_reading_62 : decode cX5_reading 62 = .ok (.getfield 112, 3) := by decide +kernel
theorem dX5_reading_65 : decode cX5_reading 65 = .ok (.iload_n 2, 1) := by decide +kernel
theorem dX5_reading_66 : decode cX5_reading 66 = .ok (.iastore, 1) := by decide +kernel
theorem dX5_reading_67 : decode cX5_reading 67 = .ok (.aload_n 0, 1) := by decide +kernel
theorem dX5_reading_68 : decode cX5_reading 68 = .ok (.getfield 55, 3) := by decide +kernel
theorem dX5_reading_71 : decode cX5_reading 71 = .ok (.aload_n 0, 1) := by decide +kernel
theorem dX5_reading_72 : decode cX5_reading 72 = .ok (.getfield 112, 3) := by decide +kernel
theorem dX5_reading_75 : decode cX5_reading 75 = .ok (.iload_n 3, 1) := by decide +kernel
theorem dX5_reading_76 : decode cX5_reading 76 = .ok (.iastore, 1) := by decide +kernel
theorem dX5_reading_77 : decode cX5_reading 77 = .ok (.aload_n 0, 1) := by decide +kernel
theorem dX5_reading_78 : decode cX5_reading 78 = .ok (.dup, 1) := by decide +kernel
theorem dX5_reading_79 : decode cX5_reading 79 = .ok (.getfield 112, 3) := by decide +kernel
theorem dX5_reading_82 : decode cX5_reading 82 = .ok (.iconst 1, 1) := by decide +kernel
theorem dX5_reading_83 : decode cX5_reading 83 = .ok (.iadd, 1) := by decide +kernel
theorem dX5_reading_84 : decode cX5_reading 84 = .ok (.putfield 112, 3) := by decide +kernel
theorem dX5_reading_87 : decode cX5_reading 87 = .ok (.aload_n 0, 1) := by decide +kernel
theorem dX5_reading_88 : decode cX5_reading 88 = .ok (.getfield 112, 3) := by decide +kernel
theorem dX5_reading_91 : decode cX5_reading 91 = .ok (.iconst 1, 1) := by decide +kernel
theorem dX5_reading_92 : decode cX5_reading 92 = .ok (.isub, 1) := by decide +kernel
theorem dX5_reading_93 : decode cX5_reading 93 = .ok (.ireturn, 1) := by decide +kernel
set_option maxRecDepth 20000 in
theorem ggX5_back_X5_within : GoodIn wsX5_back wsX5_within := goodIn_r _ [5] (by decide +kernel) (by decide +kernel)
set_option maxRecDepth 20000 in
theorem gX5_back_X5_within : GoodIn wsX5_back (va_wsS RX5 64 yX5_within wsX5_within) := goodIn_app (goodIn_of _ (by decide +kernel)) ggX5_back_X5_within
theorem dX5_back_0 : decode cX5_back 0 = .ok (.iload_n 1, 1) := by decide +kernel
theorem dX5_back_1 : decode cX5_back 1 = .ok (.iconst 0, 1) := by decide +kernel
theorem dX5_back_2 : decode cX5_back 2 = .ok (.aload_n 0, 1) := by decide +kernel
theorem dX5_back_3 : decode cX5_back 3 = .ok (.getfield 112, 3) := by decide +kernel
theorem dX5_back_6 : decode cX5_back 6 = .ok (.invokestatic 64, 3) := by decide +kernel
theorem dX5_back_9 : decode cX5_back 9 = .ok (.ifCond .ne 6, 3) := by decide +kernel
theorem dX5_back_12 : decode cX5_back 12 = .ok (.bipush (-2), 2) := by decide +kernel
theorem dX5_back_14 : decode cX5_back 14 = .ok (.ireturn, 1) := by decide +kernel
theorem dX5_back_15 : decode cX5_back 15 = .ok (.aload_n 0, 1) := by decide +kernel
theorem dX5_back_16 : decode cX5_back 16 = .ok (.dup, 1) := by decide +kernel
theorem dX5_back_17 : decode cX5_back 17 = .ok (.getfield 112, 3) := by decide +kernel
theorem dX5_back_20 : decode cX5_back 20 = .ok (.iload_n 1, 1) := by decide +kernel
theorem dX5_back_21 : decode cX5_back 21 = .ok (.isub, 1) := by decide +kernel
theorem dX5_back_22 : decode cX5_back 22 = .ok (.putfield 112, 3) := by decide +kernel
theorem dX5_back_25 : decode cX5_back 25 = .ok (.aload_n 0, 1) := by decide +kernel
theorem dX5_back_26 : decode cX5_back 26 = .ok (.getfield 112, 3) := by decide +kernel
theorem dX5_back_29 : decode cX5_back 29 = .ok (.ireturn, 1) := by decide +kernel
set_option maxRecDepth 20000 in
theorem ggX5_areSo_X5_lockOf : GoodIn wsX5_areSo wsX5_lockOf := goodIn_r _ [9, 10, 11, 12, 13, 8, 14, 15, 16, 17, 18, 19, 20, 21, 22, 23, 24, 25, 26, 27, 28, 29, 30, 31, 32, 33, 34, 35, 36, 37, 38, 39] (by decide +kernel) (by decide +kernel)
set_option maxRecDepth 20000 in
theorem gX5_areSo_X5_lockOf : GoodIn wsX5_areSo (wsV RX5 145 RX5 yX5_lockOf wsX5_lockOf) := goodIn_app (goodIn_of _ (by decide +kernel)) ggX5_areSo_X5_lockOf
theorem dX5_areSo_0 : decode cX5_areSo 0 = .ok (.iconst 0, 1) := by decide +kernel
theorem dX5_areSo_1 : decode cX5_areSo 1 = .ok (.istore_n 1, 1) := by decide +kernel
theorem dX5_areSo_2 : decode cX5_areSo 2 = .ok (.iload_n 1, 1) := by decide +kernel
theorem dX5_areSo_3 : decode cX5_areSo 3 = .ok (.aload_n 0, 1) := by decide +kernel
theorem dX5_areSo_4 : decode cX5_areSo 4 = .ok (.getfield 112, 3) := by decide +kernel
theorem dX5_areSo_7 : decode cX5_areSo 7 = .ok (.if_icmp .ge 59, 3) := by decide +kernel
theorem dX5_areSo_10 : decode cX5_areSo 10 = .ok (.aload_n 0, 1) := by decide +kernel
theorem dX5_areSo_11 : decode cX5_areSo 11 = .ok (.aload_n 0, 1) := by decide +kernel
theorem dX5_areSo_12 : decode cX5_areSo 12 = .ok (.getfield 49, 3) := by decide +kernel
theorem dX5_areSo_15 : decode cX5_areSo 15 = .ok (.iload_n 1, 1) := by decide +kernel
theorem dX5_areSo_16 : decode cX5_areSo 16 = .ok (.iaload, 1) := by decide +kernel
theorem dX5_areSo_17 : decode cX5_areSo 17 = .ok (.invokevirtual 145, 3) := by decide +kernel
theorem dX5_areSo_20 : decode cX5_areSo 20 = .ok (.aload_n 0, 1) := by decide +kernel
theorem dX5_areSo_21 : decode cX5_areSo 21 = .ok (.aload_n 0, 1) := by decide +kernel
theorem dX5_areSo_22 : decode cX5_areSo 22 = .ok (.getfield 52, 3) := by decide +kernel
theorem dX5_areSo_25 : decode cX5_areSo 25 = .ok (.iload_n 1, 1) := by decide +kernel
theorem dX5_areSo_26 : decode cX5_areSo 26 = .ok (.iaload, 1) := by decide +kernel
theorem dX5_areSo_27 : decode cX5_areSo 27 = .ok (.invokevirtual 145, 3) := by decide +kernel
theorem dX5_areSo_30 : decode cX5_areSo 30 = .ok (.if_icmp .ge 7, 3) := by decide +kernel
theorem dX5_areSo_33 : decode cX5_areSo 33 = .ok (.iconst 1, 1) := by decide +kernel
theorem dX5_areSo_34 : decode cX5_areSo 34 = .ok (.goto 4, 3) := by decide +kernel
theorem dX5_areSo_37 : decode cX5_areSo 37 = .ok (.iconst 0, 1) := by decide +kernel
theorem dX5_areSo_38 : decode cX5_areSo 38 = .ok (.istore_n 2, 1) := by decide +kernel
theorem dX5_areSo_39 : decode cX5_areSo 39 = .ok (.iload_n 2, 1) := by decide +kernel
theorem dX5_areSo_40 : decode cX5_areSo 40 = .ok (.aload_n 0, 1) := by decide +kernel
theorem dX5_areSo_41 : decode cX5_areSo 41 = .ok (.getfield 55, 3) := by decide +kernel
theorem dX5_areSo_44 : decode cX5_areSo 44 = .ok (.iload_n 1, 1) := by decide +kernel
theorem dX5_areSo_45 : decode cX5_areSo 45 = .ok (.iaload, 1) := by decide +kernel
theorem dX5_areSo_46 : decode cX5_areSo 46 = .ok (.iconst 1, 1) := by decide +kernel
theorem dX5_areSo_47 : decode cX5_areSo 47 = .ok (.if_icmp .ne 7, 3) := by decide +kernel
theorem dX5_areSo_50 : decode cX5_areSo 50 = .ok (.iconst 1, 1) := by decide +kernel
theorem dX5_areSo_51 : decode cX5_areSo 51 = .ok (.goto 4, 3) := by decide +kernel
theorem dX5_areSo_54 : decode cX5_areSo 54 = .ok (.iconst 0, 1) := by decide +kernel
theorem dX5_areSo_55 : decode cX5_areSo 55 = .ok (.if_icmp .eq 5, 3) := by decide +kernel
theorem dX5_areSo_58 : decode cX5_areSo 58 = .ok (.iconst 0, 1) := by decide +kernel
theorem dX5_areSo_59 : decode cX5_areSo 59 = .ok (.ireturn, 1) := by decide +kernel
theorem dX5_areSo_60 : decode cX5_areSo 60 = .ok (.iinc 1 1, 3) := by decide +kernel
theorem dX5_areSo_63 : decode cX5_areSo 63 = .ok (.goto (-61), 3) := by decide +kernel
theorem dX5_areSo_66 : decode cX5_areSo 66 = .ok (.iconst 1, 1) := by decide +kernel
theorem dX5_areSo_67 : decode cX5_areSo 67 = .ok (.ireturn, 1) := by decide +kernel
set_option maxRecDepth 20000 in
theorem ggX5_kinds_X5_isThing : GoodIn wsX5_kinds wsX5_isThing := goodIn_r _ [6, 7, 25, 26, 27, 28, 29, 30, 31, 32, 33, 34, 35, 36, 37, 38, 39, 40, 41, 42, 43, 44, 45, 46, 47, 48] (by decide +kernel) (by decide +kernel)
set_option maxRecDepth 20000 in
theorem gX5_kinds_X5_isThing : GoodIn wsX5_kinds (wsV RX5 71 RX5 yX5_isThing wsX5_isThing) := goodIn_app (goodIn_of _ (by decide +kernel)) ggX5_kinds_X5_isThing
set_option maxRecDepth 20000 in
theorem ggX5_kinds_X5_areSo : GoodIn wsX5_kinds wsX5_areSo := goodIn_r _ [11, 12, 13, 14, 15, 16, 17, 18, 5, 19, 1, 20, 21, 22, 23, 24, 25, 26, 27, 28, 29, 30, 31, 32, 33, 34, 35, 36, 37, 38, 39, 40, 41, 42, 43, 44, 45, 46, 47, 48] (by decide +kernel) (by decide +kernel)
set_option maxRecDepth 20000 in
theorem gX5_kinds_X5_areSo : GoodIn wsX5_kinds (wsV RX5 205 RX5 yX5_areSo wsX5_areSo) := goodIn_app (goodIn_of _ (by decide +kernel)) ggX5_kinds_X5_areSo
theorem dX5_kinds_0 : decode cX5_kinds 0 = .ok (.aload_n 0, 1) := by decide +kernel
theorem dX5_kinds_1 : decode cX5_kinds 1 = .ok (.iload_n 1, 1) := by decide +kernel
theorem dX5_kinds_2 : decode cX5_kinds 2 = .ok (.invokevirtual 71, 3) := by decide +kernel
theorem dX5_kinds_5 : decode cX5_kinds 5 = .ok (.ifCond .ne 5, 3) := by decide +kernel
theorem dX5_kinds_8 : decode cX5_kinds 8 = .ok (.iconst (-1), 1) := by decide +kernel
theorem dX5_kinds_9 : decode cX5_kinds 9 = .ok (.ireturn, 1) := by decide +kernel
theorem dX5_kinds_10 : decode cX5_kinds 10 = .ok (.aload_n 0, 1) := by decide +kernel
theorem dX5_kinds_11 : decode cX5_kinds 11 = .ok (.getfield 19, 3) := by decide +kernel
theorem dX5_kinds_14 : decode cX5_kinds 14 = .ok (.iload_n 1, 1) := by decide +kernel
theorem dX5_kinds_15 : decode cX5_kinds 15 = .ok (.iaload, 1) := by decide +kernel
theorem dX5_kinds_16 : decode cX5_kinds 16 = .ok (.istore_n 2, 1) := by decide +kernel
theorem dX5_kinds_17 : decode cX5_kinds 17 = .ok (.iconst 0, 1) := by decide +kernel
theorem dX5_kinds_18 : decode cX5_kinds 18 = .ok (.istore_n 3, 1) := by decide +kernel
theorem dX5_kinds_19 : decode cX5_kinds 19 = .ok (.iconst 0, 1) := by decide +kernel
theorem dX5_kinds_20 : decode cX5_kinds 20 = .ok (.istore 4, 2) := by decide +kernel
theorem dX5_kinds_22 : decode cX5_kinds 22 = .ok (.iload 4, 2) := by decide +kernel
theorem dX5_kinds_24 : decode cX5_kinds 24 = .ok (.iconst 3, 1) := by decide +kernel
theorem dX5_kinds_25 : decode cX5_kinds 25 = .ok (.if_icmp .ge 35, 3) := by decide +kernel
theorem dX5_kinds_28 : decode cX5_kinds 28 = .ok (.aload_n 0, 1) := by decide +kernel
theorem dX5_kinds_29 : decode cX5_kinds 29 = .ok (.getfield 19, 3) := by decide +kernel
theorem dX5_kinds_32 : decode cX5_kinds 32 = .ok (.iload_n 1, 1) := by decide +kernel
theorem dX5_kinds_33 : decode cX5_kinds 33 = .ok (.iload 4, 2) := by decide +kernel
theorem dX5_kinds_35 : decode cX5_kinds 35 = .ok (.iastore, 1) := by decide +kernel
theorem dX5_kinds_36 : decode cX5_kinds 36 = .ok (.iload_n 3, 1) := by decide +kernel
theorem dX5_kinds_37 : decode cX5_kinds 37 = .ok (.aload_n 0, 1) := by decide +kernel
theorem dX5_kinds_38 : decode cX5_kinds 38 = .ok (.invokevirtual 205, 3) := by decide +kernel
theorem dX5_kinds_41 : decode cX5_kinds 41 = .ok (.ifCond .eq 10, 3) := by decide +kernel
theorem dX5_kinds_44 : decode cX5_kinds 44 = .ok (.iconst 1, 1) := by decide +kernel
theorem dX5_kinds_45 : decode cX5_kinds 45 = .ok (.iload 4, 2) := by decide +kernel
theorem dX5_kinds_47 : decode cX5_kinds 47 = .ok (.ishl, 1) := by decide +kernel
theorem dX5_kinds_48 : decode cX5_kinds 48 = .ok (.goto 4, 3) := by decide +kernel
theorem dX5_kinds_51 : decode cX5_kinds 51 = .ok (.iconst 0, 1) := by decide +kernel
theorem dX5_kinds_52 : decode cX5_kinds 52 = .ok (.ior, 1) := by decide +kernel
theorem dX5_kinds_53 : decode cX5_kinds 53 = .ok (.istore_n 3, 1) := by decide +kernel
theorem dX5_kinds_54 : decode cX5_kinds 54 = .ok (.iinc 4 1, 3) := by decide +kernel
theorem dX5_kinds_57 : decode cX5_kinds 57 = .ok (.goto (-35), 3) := by decide +kernel
theorem dX5_kinds_60 : decode cX5_kinds 60 = .ok (.aload_n 0, 1) := by decide +kernel
theorem dX5_kinds_61 : decode cX5_kinds 61 = .ok (.getfield 19, 3) := by decide +kernel
theorem dX5_kinds_64 : decode cX5_kinds 64 = .ok (.iload_n 1, 1) := by decide +kernel
theorem dX5_kinds_65 : decode cX5_kinds 65 = .ok (.iload_n 2, 1) := by decide +kernel
theorem dX5_kinds_66 : decode cX5_kinds 66 = .ok (.iastore, 1) := by decide +kernel
theorem dX5_kinds_67 : decode cX5_kinds 67 = .ok (.iload_n 3, 1) := by decide +kernel
theorem dX5_kinds_68 : decode cX5_kinds 68 = .ok (.ireturn, 1) := by decide +kernel
set_option maxRecDepth 20000 in
theorem ggX5_owners_X5_isThing : GoodIn wsX5_owners wsX5_isThing := goodIn_r _ [7, 2, 36, 37, 38, 39, 40, 41, 42, 43, 44, 45, 46, 47, 48, 49, 50, 51, 52, 53, 54, 55, 56, 57, 58, 59] (by decide +kernel) (by decide +kernel)
set_option maxRecDepth 20000 in
theorem gX5_owners_X5_isThing : GoodIn wsX5_owners (wsV RX5 71 RX5 yX5_isThing wsX5_isThing) := goodIn_app (goodIn_of _ (by decide +kernel)) ggX5_owners_X5_isThing
set_option maxRecDepth 20000 in
theorem ggX5_owners_X5_canOwn : GoodIn wsX5_owners wsX5_canOwn := goodIn_r _ [11, 12, 13, 14, 6, 15, 1, 36, 37, 38, 39, 40, 41, 42, 43, 44, 45, 46, 47, 48, 49, 50, 51, 52, 53, 54, 55, 56, 57, 58, 59] (by decide +kernel) (by decide +kernel)
set_option maxRecDepth 20000 in
theorem gX5_owners_X5_canOwn : GoodIn wsX5_owners (wsV RX5 177 RX5 yX5_canOwn wsX5_canOwn) := goodIn_app (goodIn_of _ (by decide +kernel)) ggX5_owners_X5_canOwn
set_option maxRecDepth 20000 in
theorem ggX5_owners_X5_isOf : GoodIn wsX5_owners wsX5_isOf := goodIn_r _ [18] (by decide +kernel) (by decide +kernel)
set_option maxRecDepth 20000 in
theorem gX5_owners_X5_isOf : GoodIn wsX5_owners (va_wsS RX5 127 yX5_isOf wsX5_isOf) := goodIn_app (goodIn_of _ (by decide +kernel)) ggX5_owners_X5_isOf
set_option maxRecDepth 20000 in
theorem ggX5_owners_X5_areSo : GoodIn wsX5_owners wsX5_areSo := goodIn_r _ [22, 23, 24, 25, 26, 27, 28, 29, 6, 30, 31, 32, 33, 34, 35, 1, 36, 37, 38, 39, 40, 41, 42, 43, 44, 45, 46, 47, 48, 49, 50, 51, 52, 53, 54, 55, 56, 57, 58, 59] (by decide +kernel) (by decide +kernel)
set_option maxRecDepth 20000 in
theorem gX5_owners_X5_areSo : GoodIn wsX5_owners (wsV RX5 205 RX5 yX5_areSo wsX5_areSo) := goodIn_app (goodIn_of _ (by decide +kernel)) ggX5_owners_X5_areSo
theorem dX5_owners_0 : decode cX5_owners 0 = .ok (.aload_n 0, 1) := by decide +kernel
theorem dX5_owners_1 : decode cX5_owners 1 = .ok (.iload_n 1, 1) := by decide +kernel
theorem dX5_owners_2 : decode cX5_owners 2 = .ok (.invokevirtual 71, 3) := by decide +kernel
theorem dX5_owners_5 : decode cX5_owners 5 = .ok (.ifCond .ne 5, 3) := by decide +kernel
theorem dX5_owners_8 : decode cX5_owners 8 = .ok (.iconst (-1), 1) := by decide +kernel
theorem dX5_owners_9 : decode cX5_owners 9 = .ok (.ireturn, 1) := by decide +kernel
theorem dX5_owners_10 : decode cX5_owners 10 = .ok (.aload_n 0, 1) := by decide +kernel
theorem dX5_owners_11 : decode cX5_owners 11 = .ok (.getfield 22, 3) := by decide +kernel
theorem dX5_owners_14 : decode cX5_owners 14 = .ok (.iload_n 1, 1) := by decide +kernel
theorem dX5_owners_15 : decode cX5_owners 15 = .ok (.iaload, 1) := by decide +kernel
theorem dX5_owners_16 : decode cX5_owners 16 = .ok (.istore_n 2, 1) := by decide +kernel
theorem dX5_owners_17 : decode cX5_owners 17 = .ok (.bipush 64, 2) := by decide +kernel
theorem dX5_owners_19 : decode cX5_owners 19 = .ok (.istore_n 3, 1) := by decide +kernel
theorem dX5_owners_20 : decode cX5_owners 20 = .ok (.iconst 0, 1) := by decide +kernel
theorem dX5_owners_21 : decode cX5_owners 21 = .ok (.istore 4, 2) := by decide +kernel
theorem dX5_owners_23 : decode cX5_owners 23 = .ok (.iload 4, 2) := by decide +kernel
theorem dX5_owners_25 : decode cX5_owners 25 = .ok (.aload_n 0, 1) := by decide +kernel
theorem dX5_owners_26 : decode cX5_owners 26 = .ok (.getfield 68, 3) := by decide +kernel
theorem dX5_owners_29 : decode cX5_owners 29 = .ok (.if_icmp .ge 30, 3) := by decide +kernel
theorem dX5_owners_32 : decode cX5_owners 32 = .ok (.iload_n 3, 1) := by decide +kernel
theorem dX5_owners_33 : decode cX5_owners 33 = .ok (.aload_n 0, 1) := by decide +kernel
theorem dX5_owners_34 : decode cX5_owners 34 = .ok (.iload_n 1, 1) := by decide +kernel
theorem dX5_owners_35 : decode cX5_owners 35 = .ok (.iload 4, 2) := by decide +kernel
theorem dX5_owners_37 : decode cX5_owners 37 = .ok (.invokevirtual 177, 3) := by decide +kernel
theorem dX5_owners_40 : decode cX5_owners 40 = .ok (.ifCond .eq 10, 3) := by decide +kernel
theorem dX5_owners_43 : decode cX5_owners 43 = .ok (.iconst 1, 1) := by decide +kernel
theorem dX5_owners_44 : decode cX5_owners 44 = .ok (.iload 4, 2) := by decide +kernel
theorem dX5_owners_46 : decode cX5_owners 46 = .ok (.ishl, 1) := by decide +kernel
theorem dX5_owners_47 : decode cX5_owners 47 = .ok (.goto 4, 3) := by decide +kernel
theorem dX5_owners_50 : decode cX5_owners 50 = .ok (.iconst 0, 1) := by decide +kernel
theorem dX5_owners_51 : decode cX5_owners 51 = .ok (.ior, 1) := by decide +kernel
theorem dX5_owners_52 : decode cX5_owners 52 = .ok (.istore_n 3, 1) := by decide +kernel
theorem dX5_owners_53 : decode cX5_owners 53 = .ok (.iinc 4 1, 3) := by decide +kernel
theorem dX5_owners_56 : decode cX5_owners 56 = .ok (.goto (-33), 3) := by decide +kernel
theorem dX5_owners_59 : decode cX5_owners 59 = .ok (.iconst 0, 1) := by decide +kernel
theorem dX5_owners_60 : decode cX5_owners 60 = .ok (.istore 4, 2) := by decide +kernel
theorem dX5_owners_62 : decode cX5_owners 62 = .ok (.iconst 0, 1) := by decide +kernel
theorem dX5_owners_63 : decode cX5_owners 63 = .ok (.istore 5, 2) := by decide +kernel
theorem dX5_owners_65 : decode cX5_owners 65 = .ok (.iload 5, 2) := by decide +kernel
theorem dX5_owners_67 : decode cX5_owners 67 = .ok (.bipush 6, 2) := by decide +kernel
theorem dX5_owners_69 : decode cX5_owners 69 = .ok (.if_icmp .gt 46, 3) := by decide +kernel
theorem dX5_owners_72 : decode cX5_owners 72 = .ok (.iload_n 3, 1) := by decide +kernel
theorem dX5_owners_73 : decode cX5_owners 73 = .ok (.iload 5, 2) := by decide +kernel
theorem dX5_owners_75 : decode cX5_owners 75 = .ok (.invokestatic 127, 3) := by decide +kernel
theorem dX5_owners_78 : decode cX5_owners 78 = .ok (.ifCond .eq 31, 3) := by decide +kernel
theorem dX5_owners_81 : decode cX5_owners 81 = .ok (.aload_n 0, 1) := by decide +kernel
theorem dX5_owners_82 : decode cX5_owners 82 = .ok (.getfield 22, 3) := by decide +kernel
theorem dX5_owners_85 : decode cX5_owners 85 = .ok (.iload_n 1, 1) := by decide +kernel
theorem dX5_owners_86 : decode cX5_owners 86 = .ok (.iload 5, 2) := by decide +kernel
theorem dX5_owners_88 : decode cX5_owners 88 = .ok (.iastore, 1) := by decide +kernel
theorem dX5_owners_89 : decode cX5_owners 89 = .ok (.iload 4, 2) := by decide +kernel
theorem dX5_owners_91 : decode cX5_owners 91 = .ok (.aload_n 0, 1) := by decide +kernel
theorem dX5_owners_92 : decode cX5_owners 92 = .ok (.invokevirtual 205, 3) := by decide +kernel
theorem dX5_owners_95 : decode cX5_owners 95 = .ok (.ifCond .eq 10, 3) := by decide +kernel
theorem dX5_owners_98 : decode cX5_owners 98 = .ok (.iconst 1, 1) := by decide +kernel
theorem dX5_owners_99 : decode cX5_owners 99 = .ok (.iload 5, 2) := by decide +kernel
theorem dX5_owners_101 : decode cX5_owners 101 = .ok (.ishl, 1) := by decide +kernel
theorem dX5_owners_102 : decode cX5_owners 102 = .ok (.goto 4, 3) := by decide +kernel
theorem dX5_owners_105 : decode cX5_owners 105 = .ok (.iconst 0, 1) := by decide +kernel
theorem dX5_owners_106 : decode cX5_owners 106 = .ok (.ior, 1) := by decide +kernel
theorem dX5_owners_107 : decode cX5_owners 107 = .ok (.istore 4, 2) := by decide +kernel
theorem dX5_owners_109 : decode cX5_owners 109 = .ok (.iinc 5 1, 3) := by decide +kernel
theorem dX5_owners_112 : decode cX5_owners 112 = .ok (.goto (-47), 3) := by decide +kernel
theorem dX5_owners_115 : decode cX5_owners 115 = .ok (.aload_n 0, 1) := by decide +kernel
theorem dX5_owners_116 : decode cX5_owners 116 = .ok (.getfield 22, 3) := by decide +kernel
theorem dX5_owners_119 : decode cX5_owners 119 = .ok (.iload_n 1, 1) := by decide +kernel
theorem dX5_owners_120 : decode cX5_owners 120 = .ok (.iload_n 2, 1) := by decide +kernel
theorem dX5_owners_121 : decode cX5_owners 121 = .ok (.iastore, 1) := by decide +kernel
theorem dX5_owners_122 : decode cX5_owners 122 = .ok (.iload 4, 2) := by decide +kernel
theorem dX5_owners_124 : decode cX5_owners 124 = .ok (.ireturn, 1) := by decide +kernel
theorem dX5_inLeastTerms_0 : decode cX5_inLeastTerms 0 = .ok (.lload_n 0, 1) := by decide +kernel
theorem dX5_inLeastTerms_1 : decode cX5_inLeastTerms 1 = .ok (.lstore 5, 2) := by decide +kernel
theorem dX5_inLeastTerms_3 : decode cX5_inLeastTerms 3 = .ok (.lload_n 2, 1) := by decide +kernel
theorem dX5_inLeastTerms_4 : decode cX5_inLeastTerms 4 = .ok (.lstore 7, 2) := by decide +kernel
theorem dX5_inLeastTerms_6 : decode cX5_inLeastTerms 6 = .ok (.lload 7, 2) := by decide +kernel
theorem dX5_inLeastTerms_8 : decode cX5_inLeastTerms 8 = .ok (.lconst 0, 1) := by decide +kernel
theorem dX5_inLeastTerms_9 : decode cX5_inLeastTerms 9 = .ok (.lcmp, 1) := by decide +kernel
theorem dX5_inLeastTerms_10 : decode cX5_inLeastTerms 10 = .ok (.ifCond .eq 21, 3) := by decide +kernel
theorem dX5_inLeastTerms_13 : decode cX5_inLeastTerms 13 = .ok (.lload 5, 2) := by decide +kernel
theorem dX5_inLeastTerms_15 : decode cX5_inLeastTerms 15 = .ok (.lload 7, 2) := by decide +kernel
theorem dX5_inLeastTerms_17 : decode cX5_inLeastTerms 17 = .ok (.lrem, 1) := by decide +kernel
theorem dX5_inLeastTerms_18 : decode cX5_inLeastTerms 18 = .ok (.lstore 9, 2) := by decide +kernel
theorem dX5_inLeastTerms_20 : decode cX5_inLeastTerms 20 = .ok (.lload 7, 2) := by decide +kernel
theorem dX5_inLeastTerms_22 : decode cX5_inLeastTerms 22 = .ok (.lstore 5, 2) := by decide +kernel
theorem dX5_inLeastTerms_24 : decode cX5_inLeastTerms 24 = .ok (.lload 9, 2) := by decide +kernel
theorem dX5_inLeastTerms_26 : decode cX5_inLeastTerms 26 = .ok (.lstore 7, 2) := by decide +kernel
theorem dX5_inLeastTerms_28 : decode cX5_inLeastTerms 28 = .ok (.goto (-22), 3) := by decide +kernel
theorem dX5_inLeastTerms_31 : decode cX5_inLeastTerms 31 = .ok (.iload 4, 2) := by decide +kernel
theorem dX5_inLeastTerms_33 : decode cX5_inLeastTerms 33 = .ok (.ifCond .ne 10, 3) := by decide +kernel
theorem dX5_inLeastTerms_36 : decode cX5_inLeastTerms 36 = .ok (.lload_n 0, 1) := by decide +kernel
theorem dX5_inLeastTerms_37 : decode cX5_inLeastTerms 37 = .ok (.lload 5, 2) := by decide +kernel
theorem dX5_inLeastTerms_39 : decode cX5_inLeastTerms 39 = .ok (.ldiv, 1) := by decide +kernel
theorem dX5_inLeastTerms_40 : decode cX5_inLeastTerms 40 = .ok (.goto 7, 3) := by decide +kernel
theorem dX5_inLeastTerms_43 : decode cX5_inLeastTerms 43 = .ok (.lload_n 2, 1) := by decide +kernel
theorem dX5_inLeastTerms_44 : decode cX5_inLeastTerms 44 = .ok (.lload 5, 2) := by decide +kernel
theorem dX5_inLeastTerms_46 : decode cX5_inLeastTerms 46 = .ok (.ldiv, 1) := by decide +kernel
theorem dX5_inLeastTerms_47 : decode cX5_inLeastTerms 47 = .ok (.lreturn, 1) := by decide +kernel
set_option maxRecDepth 20000 in
theorem ggX5_odds_X5_within : GoodIn wsX5_odds wsX5_within := goodIn_r _ [8] (by decide +kernel) (by decide +kernel)
set_option maxRecDepth 20000 in
theorem gX5_odds_X5_within : GoodIn wsX5_odds (va_wsS RX5 64 yX5_within wsX5_within) := goodIn_app (goodIn_of _ (by decide +kernel)) ggX5_odds_X5_within
set_option maxRecDepth 20000 in
theorem ggX5_odds_X5_cut : GoodIn wsX5_odds wsX5_cut := goodIn_r _ [12, 1, 3, 4, 45, 46, 47, 48, 49, 50, 51, 52, 53, 54, 55, 56, 57, 58, 59, 60, 61, 62, 63, 64, 65, 66, 67, 68] (by decide +kernel) (by decide +kernel)
set_option maxRecDepth 20000 in
theorem gX5_odds_X5_cut : GoodIn wsX5_odds (wsV RX5 163 RX5 yX5_cut wsX5_cut) := goodIn_app (goodIn_of _ (by decide +kernel)) ggX5_odds_X5_cut
set_option maxRecDepth 20000 in
theorem ggX5_odds_X5_unlawfulNow : GoodIn wsX5_odds wsX5_unlawfulNow := goodIn_r _ [16, 17, 18, 19, 20, 7, 21, 22, 23, 24, 25, 26, 27, 28, 29, 30, 31, 32, 33, 34, 1, 3, 4, 35, 36, 37, 45, 46, 47, 48, 49, 50, 51, 52, 53, 54, 55, 56, 57, 58, 59, 60, 61, 62, 63, 64, 65, 66, 67, 68] (by decide +kernel) (by decide +kernel)
set_option maxRecDepth 20000 in
theorem gX5_odds_X5_unlawfulNow : GoodIn wsX5_odds (wsV RX5 198 RX5 yX5_unlawfulNow wsX5_unlawfulNow) := goodIn_app (goodIn_of _ (by decide +kernel)) ggX5_odds_X5_unlawfulNow
set_option maxRecDepth 20000 in
theorem ggX5_odds_X5_make : GoodIn wsX5_odds wsX5_make := goodIn_r _ [41, 1, 3, 4, 45, 46, 47, 48, 49, 50, 51, 52, 53, 54, 55, 56, 57, 58, 59, 60, 61, 62, 63, 64, 65, 66, 67, 68] (by decide +kernel) (by decide +kernel)
set_option maxRecDepth 20000 in
theorem gX5_odds_X5_make : GoodIn wsX5_odds (wsV RX5 167 RX5 yX5_make wsX5_make) := goodIn_app (goodIn_of _ (by decide +kernel)) ggX5_odds_X5_make
set_option maxRecDepth 20000 in
theorem ggX5_odds_X5_inLeastTerms : GoodIn wsX5_odds wsX5_inLeastTerms := goodIn_r _ [44] (by decide +kernel) (by decide +kernel)
set_option maxRecDepth 20000 in
theorem gX5_odds_X5_inLeastTerms : GoodIn wsX5_odds (va_wsS RX5 209 yX5_inLeastTerms wsX5_inLeastTerms) := goodIn_app (goodIn_of _ (by decide +kernel)) ggX5_odds_X5_inLeastTerms
theorem dX5_odds_0 : decode cX5_odds 0 = .ok (.iload_n 1, 1) := by decide +kernel
theorem dX5_odds_1 : decode cX5_odds 1 = .ok (.iconst 0, 1) := by decide +kernel
theorem dX5_odds_2 : decode cX5_odds 2 = .ok (.iconst 1, 1) := by decide +kernel
theorem dX5_odds_3 : decode cX5_odds 3 = .ok (.invokestatic 64, 3) := by decide +kernel
theorem dX5_odds_6 : decode cX5_odds 6 = .ok (.ifCond .eq 10, 3) := by decide +kernel
theorem dX5_odds_9 : decode cX5_odds 9 = .ok (.aload_n 0, 1) := by decide +kernel
theorem dX5_odds_10 : decode cX5_odds 10 = .ok (.getfield 109, 3) := by decide +kernel
theorem dX5_odds_13 : decode cX5_odds 13 = .ok (.ifCond .ne 7, 3) := by decide +kernel
theorem dX5_odds_16 : decode cX5_odds 16 = .ok (.ldc2_w 62, 3) := by decide +kernel
theorem dX5_odds_19 : decode cX5_odds 19 = .ok (.lreturn, 1) := by decide +kernel
theorem dX5_odds_20 : decode cX5_odds 20 = .ok (.iconst 0, 1) := by decide +kernel
theorem dX5_odds_21 : decode cX5_odds 21 = .ok (.istore_n 2, 1) := by decide +kernel
theorem dX5_odds_22 : decode cX5_odds 22 = .ok (.iconst 0, 1) := by decide +kernel
theorem dX5_odds_23 : decode cX5_odds 23 = .ok (.istore_n 3, 1) := by decide +kernel
theorem dX5_odds_24 : decode cX5_odds 24 = .ok (.iload_n 3, 1) := by decide +kernel
theorem dX5_odds_25 : decode cX5_odds 25 = .ok (.aload_n 0, 1) := by decide +kernel
theorem dX5_odds_26 : decode cX5_odds 26 = .ok (.getfield 109, 3) := by decide +kernel
theorem dX5_odds_29 : decode cX5_odds 29 = .ok (.if_icmp .ge 54, 3) := by decide +kernel
theorem dX5_odds_32 : decode cX5_odds 32 = .ok (.aload_n 0, 1) := by decide +kernel
theorem dX5_odds_33 : decode cX5_odds 33 = .ok (.getfield 25, 3) := by decide +kernel
theorem dX5_odds_36 : decode cX5_odds 36 = .ok (.iload_n 3, 1) := by decide +kernel
theorem dX5_odds_37 : decode cX5_odds 37 = .ok (.iaload, 1) := by decide +kernel
theorem dX5_odds_38 : decode cX5_odds 38 = .ok (.istore 4, 2) := by decide +kernel
theorem dX5_odds_40 : decode cX5_odds 40 = .ok (.aload_n 0, 1) := by decide +kernel
theorem dX5_odds_41 : decode cX5_odds 41 = .ok (.getfield 28, 3) := by decide +kernel
theorem dX5_odds_44 : decode cX5_odds 44 = .ok (.iload_n 3, 1) := by decide +kernel
theorem dX5_odds_45 : decode cX5_odds 45 = .ok (.iaload, 1) := by decide +kernel
theorem dX5_odds_46 : decode cX5_odds 46 = .ok (.istore 5, 2) := by decide +kernel
theorem dX5_odds_48 : decode cX5_odds 48 = .ok (.aload_n 0, 1) := by decide +kernel
theorem dX5_odds_49 : decode cX5_odds 49 = .ok (.iload_n 3, 1) := by decide +kernel
theorem dX5_odds_50 : decode cX5_odds 50 = .ok (.invokevirtual 163, 3) := by decide +kernel
theorem dX5_odds_53 : decode cX5_odds 53 = .ok (.iload_n 2, 1) := by decide +kernel
theorem dX5_odds_54 : decode cX5_odds 54 = .ok (.aload_n 0, 1) := by decide +kernel
theorem dX5_odds_55 : decode cX5_odds 55 = .ok (.invokevirtual 198, 3) := by decide +kernel
theorem dX5_odds_58 : decode cX5_odds 58 = .ok (.ifCond .ne 7, 3) := by decide +kernel
theorem dX5_odds_61 : decode cX5_odds 61 = .ok (.iconst 1, 1) := by decide +kernel
theorem dX5_odds_62 : decode cX5_odds 62 = .ok (.goto 4, 3) := by decide +kernel
theorem dX5_odds_65 : decode cX5_odds 65 = .ok (.iconst 0, 1) := by decide +kernel
theorem dX5_odds_66 : decode cX5_odds 66 = .ok (.iadd, 1) := by decide +kernel
theorem dX5_odds_67 : decode cX5_odds 67 = .ok (.istore_n 2, 1) := by decide +kernel
theorem dX5_odds_68 : decode cX5_odds 68 = .ok (.aload_n 0, 1) := by decide +kernel
theorem dX5_odds_69 : decode cX5_odds 69 = .ok (.iload_n 3, 1) := by decide +kernel
theorem dX5_odds_70 : decode cX5_odds 70 = .ok (.iload 4, 2) := by decide +kernel
theorem dX5_odds_72 : decode cX5_odds 72 = .ok (.iload 5, 2) := by decide +kernel
theorem dX5_odds_74 : decode cX5_odds 74 = .ok (.invokevirtual 167, 3) := by decide +kernel
theorem dX5_odds_77 : decode cX5_odds 77 = .ok (.iinc 3 1, 3) := by decide +kernel
theorem dX5_odds_80 : decode cX5_odds 80 = .ok (.goto (-56), 3) := by decide +kernel
theorem dX5_odds_83 : decode cX5_odds 83 = .ok (.iload_n 2, 1) := by decide +kernel
theorem dX5_odds_84 : decode cX5_odds 84 = .ok (.i2l, 1) := by decide +kernel
theorem dX5_odds_85 : decode cX5_odds 85 = .ok (.aload_n 0, 1) := by decide +kernel
theorem dX5_odds_86 : decode cX5_odds 86 = .ok (.getfield 109, 3) := by decide +kernel
theorem dX5_odds_89 : decode cX5_odds 89 = .ok (.i2l, 1) := by decide +kernel
theorem dX5_odds_90 : decode cX5_odds 90 = .ok (.iload_n 1, 1) := by decide +kernel
theorem dX5_odds_91 : decode cX5_odds 91 = .ok (.invokestatic 209, 3) := by decide +kernel
theorem dX5_odds_94 : decode cX5_odds 94 = .ok (.lreturn, 1) := by decide +kernel
set_option maxRecDepth 20000 in
theorem ggX5_sheet_X5_isSheet : GoodIn wsX5_sheet wsX5_isSheet := goodIn_r _ [8, 9, 10, 7, 11] (by decide +kernel) (by decide +kernel)
set_option maxRecDepth 20000 in
theorem gX5_sheet_X5_isSheet : GoodIn wsX5_sheet (va_wsS RX5 86 yX5_isSheet wsX5_isSheet) := goodIn_app (goodIn_of _ (by decide +kernel)) ggX5_sheet_X5_isSheet
set_option maxRecDepth 20000 in
theorem ggX5_sheet_X5_isSort : GoodIn wsX5_sheet wsX5_isSort := goodIn_r _ [14, 9, 10, 7, 11] (by decide +kernel) (by decide +kernel)
set_option maxRecDepth 20000 in
theorem gX5_sheet_X5_isSort : GoodIn wsX5_sheet (va_wsS RX5 89 yX5_isSort wsX5_isSort) := goodIn_app (goodIn_of _ (by decide +kernel)) ggX5_sheet_X5_isSort
set_option maxRecDepth 20000 in
theorem ggX5_sheet_X5_fails : GoodIn wsX5_sheet wsX5_fails := goodIn_r _ [18, 1, 19, 20, 21, 22, 23, 24, 25, 26, 27, 28, 29, 30, 31, 32, 33, 34, 35, 36, 37, 38, 39, 40, 41, 42] (by decide +kernel) (by decide +kernel)
set_option maxRecDepth 20000 in
theorem gX5_sheet_X5_fails : GoodIn wsX5_sheet (wsV RX5 96 RX5 yX5_fails wsX5_fails) := goodIn_app (goodIn_of _ (by decide +kernel)) ggX5_sheet_X5_fails
theorem dX5_sheet_0 : decode cX5_sheet 0 = .ok (.aload_n 0, 1) := by decide +kernel
theorem dX5_sheet_1 : decode cX5_sheet 1 = .ok (.iconst 0, 1) := by decide +kernel
theorem dX5_sheet_2 : decode cX5_sheet 2 = .ok (.putfield 58, 3) := by decide +kernel
theorem dX5_sheet_5 : decode cX5_sheet 5 = .ok (.iload_n 1, 1) := by decide +kernel
theorem dX5_sheet_6 : decode cX5_sheet 6 = .ok (.invokestatic 86, 3) := by decide +kernel
theorem dX5_sheet_9 : decode cX5_sheet 9 = .ok (.ifCond .ne 5, 3) := by decide +kernel
theorem dX5_sheet_12 : decode cX5_sheet 12 = .ok (.iconst (-1), 1) := by decide +kernel
theorem dX5_sheet_13 : decode cX5_sheet 13 = .ok (.ireturn, 1) := by decide +kernel
theorem dX5_sheet_14 : decode cX5_sheet 14 = .ok (.iload_n 2, 1) := by decide +kernel
theorem dX5_sheet_15 : decode cX5_sheet 15 = .ok (.invokestatic 89, 3) := by decide +kernel
theorem dX5_sheet_18 : decode cX5_sheet 18 = .ok (.ifCond .eq 9, 3) := by decide +kernel
theorem dX5_sheet_21 : decode cX5_sheet 21 = .ok (.iload_n 3, 1) := by decide +kernel
theorem dX5_sheet_22 : decode cX5_sheet 22 = .ok (.bipush 60, 2) := by decide +kernel
theorem dX5_sheet_24 : decode cX5_sheet 24 = .ok (.if_icmp .le 6, 3) := by decide +kernel
theorem dX5_sheet_27 : decode cX5_sheet 27 = .ok (.bipush (-2), 2) := by decide +kernel
theorem dX5_sheet_29 : decode cX5_sheet 29 = .ok (.ireturn, 1) := by decide +kernel
theorem dX5_sheet_30 : decode cX5_sheet 30 = .ok (.iload_n 3, 1) := by decide +kernel
theorem dX5_sheet_31 : decode cX5_sheet 31 = .ok (.ifCond .ge 9, 3) := by decide +kernel
theorem dX5_sheet_34 : decode cX5_sheet 34 = .ok (.aload_n 0, 1) := by decide +kernel
theorem dX5_sheet_35 : decode cX5_sheet 35 = .ok (.iconst 4, 1) := by decide +kernel
theorem dX5_sheet_36 : decode cX5_sheet 36 = .ok (.invokevirtual 96, 3) := by decide +kernel
theorem dX5_sheet_39 : decode cX5_sheet 39 = .ok (.ireturn, 1) := by decide +kernel
theorem dX5_sheet_40 : decode cX5_sheet 40 = .ok (.aload_n 0, 1) := by decide +kernel
theorem dX5_sheet_41 : decode cX5_sheet 41 = .ok (.getfield 9, 3) := by decide +kernel
theorem dX5_sheet_44 : decode cX5_sheet 44 = .ok (.iload_n 1, 1) := by decide +kernel
theorem dX5_sheet_45 : decode cX5_sheet 45 = .ok (.iload_n 2, 1) := by decide +kernel
theorem dX5_sheet_46 : decode cX5_sheet 46 = .ok (.iastore, 1) := by decide +kernel
theorem dX5_sheet_47 : decode cX5_sheet 47 = .ok (.aload_n 0, 1) := by decide +kernel
theorem dX5_sheet_48 : decode cX5_sheet 48 = .ok (.getfield 13, 3) := by decide +kernel
theorem dX5_sheet_51 : decode cX5_sheet 51 = .ok (.iload_n 1, 1) := by decide +kernel
theorem dX5_sheet_52 : decode cX5_sheet 52 = .ok (.iload_n 3, 1) := by decide +kernel
theorem dX5_sheet_53 : decode cX5_sheet 53 = .ok (.iastore, 1) := by decide +kernel
theorem dX5_sheet_54 : decode cX5_sheet 54 = .ok (.iconst 0, 1) := by decide +kernel
theorem dX5_sheet_55 : decode cX5_sheet 55 = .ok (.istore 4, 2) := by decide +kernel
theorem dX5_sheet_57 : decode cX5_sheet 57 = .ok (.iload 4, 2) := by decide +kernel
theorem dX5_sheet_59 : decode cX5_sheet 59 = .ok (.bipush 60, 2) := by decide +kernel
theorem dX5_sheet_61 : decode cX5_sheet 61 = .ok (.if_icmp .ge 22, 3) := by decide +kernel
theorem dX5_sheet_64 : decode cX5_sheet 64 = .ok (.aload_n 0, 1) := by decide +kernel
theorem dX5_sheet_65 : decode cX5_sheet 65 = .ok (.getfield 16, 3) := by decide +kernel
theorem dX5_sheet_68 : decode cX5_sheet 68 = .ok (.bipush 60, 2) := by decide +kernel
theorem dX5_sheet_70 : decode cX5_sheet 70 = .ok (.iload_n 1, 1) := by decide +kernel
theorem dX5_sheet_71 : decode cX5_sheet 71 = .ok (.imul, 1) := by decide +kernel
theorem dX5_sheet_72 : decode cX5_sheet 72 = .ok (.iload 4, 2) := by decide +kernel
theorem dX5_sheet_74 : decode cX5_sheet 74 = .ok (.iadd, 1) := by decide +kernel
theorem dX5_sheet_75 : decode cX5_sheet 75 = .ok (.iconst 0, 1) := by decide +kernel
theorem dX5_sheet_76 : decode cX5_sheet 76 = .ok (.iastore, 1) := by decide +kernel
theorem dX5_sheet_77 : decode cX5_sheet 77 = .ok (.iinc 4 1, 3) := by decide +kernel
theorem dX5_sheet_80 : decode cX5_sheet 80 = .ok (.goto (-23), 3) := by decide +kernel
theorem dX5_sheet_83 : decode cX5_sheet 83 = .ok (.iconst 1, 1) := by decide +kernel
theorem dX5_sheet_84 : decode cX5_sheet 84 = .ok (.ireturn, 1) := by decide +kernel
set_option maxRecDepth 20000 in
theorem ggX5_lose_X5_isSheet : GoodIn wsX5_lose wsX5_isSheet := goodIn_r _ [5, 6, 7, 4, 8] (by decide +kernel) (by decide +kernel)
set_option maxRecDepth 20000 in
theorem gX5_lose_X5_isSheet : GoodIn wsX5_lose (va_wsS RX5 86 yX5_isSheet wsX5_isSheet) := goodIn_app (goodIn_of _ (by decide +kernel)) ggX5_lose_X5_isSheet
theorem dX5_lose_0 : decode cX5_lose 0 = .ok (.iload_n 1, 1) := by decide +kernel
theorem dX5_lose_1 : decode cX5_lose 1 = .ok (.invokestatic 86, 3) := by decide +kernel
theorem dX5_lose_4 : decode cX5_lose 4 = .ok (.ifCond .ne 5, 3) := by decide +kernel
theorem dX5_lose_7 : decode cX5_lose 7 = .ok (.iconst (-1), 1) := by decide +kernel
theorem dX5_lose_8 : decode cX5_lose 8 = .ok (.ireturn, 1) := by decide +kernel
theorem dX5_lose_9 : decode cX5_lose 9 = .ok (.aload_n 0, 1) := by decide +kernel
theorem dX5_lose_10 : decode cX5_lose 10 = .ok (.getfield 9, 3) := by decide +kernel
theorem dX5_lose_13 : decode cX5_lose 13 = .ok (.iload_n 1, 1) := by decide +kernel
theorem dX5_lose_14 : decode cX5_lose 14 = .ok (.iaload, 1) := by decide +kernel
theorem dX5_lose_15 : decode cX5_lose 15 = .ok (.bipush (-9), 2) := by decide +kernel
theorem dX5_lose_17 : decode cX5_lose 17 = .ok (.if_icmp .ne 7, 3) := by decide +kernel
theorem dX5_lose_20 : decode cX5_lose 20 = .ok (.iconst 0, 1) := by decide +kernel
theorem dX5_lose_21 : decode cX5_lose 21 = .ok (.goto 4, 3) := by decide +kernel
theorem dX5_lose_24 : decode cX5_lose 24 = .ok (.iconst 1, 1) := by decide +kernel
theorem dX5_lose_25 : decode cX5_lose 25 = .ok (.istore_n 2, 1) := by decide +kernel
theorem dX5_lose_26 : decode cX5_lose 26 = .ok (.aload_n 0, 1) := by decide +kernel
theorem dX5_lose_27 : decode cX5_lose 27 = .ok (.getfield 9, 3) := by decide +kernel
theorem dX5_lose_30 : decode cX5_lose 30 = .ok (.iload_n 1, 1) := by decide +kernel
theorem dX5_lose_31 : decode cX5_lose 31 = .ok (.bipush (-9), 2) := by decide +kernel
theorem dX5_lose_33 : decode cX5_lose 33 = .ok (.iastore, 1) := by decide +kernel
theorem dX5_lose_34 : decode cX5_lose 34 = .ok (.iload_n 2, 1) := by decide +kernel
theorem dX5_lose_35 : decode cX5_lose 35 = .ok (.ireturn, 1) := by decide +kernel
set_option maxRecDepth 20000 in
theorem ggX5_put_X5_isSheet : GoodIn wsX5_put wsX5_isSheet := goodIn_r _ [8, 9, 10, 7, 11] (by decide +kernel) (by decide +kernel)
set_option maxRecDepth 20000 in
theorem gX5_put_X5_isSheet : GoodIn wsX5_put (va_wsS RX5 86 yX5_isSheet wsX5_isSheet) := goodIn_app (goodIn_of _ (by decide +kernel)) ggX5_put_X5_isSheet
set_option maxRecDepth 20000 in
theorem ggX5_put_X5_fails : GoodIn wsX5_put wsX5_fails := goodIn_r _ [15, 1, 16, 17, 18, 19, 20, 21, 22, 23, 24, 25, 26, 27, 28, 29, 30, 31, 32, 33, 34, 35, 36, 37, 38, 39] (by decide +kernel) (by decide +kernel)
set_option maxRecDepth 20000 in
theorem gX5_put_X5_fails : GoodIn wsX5_put (wsV RX5 96 RX5 yX5_fails wsX5_fails) := goodIn_app (goodIn_of _ (by decide +kernel)) ggX5_put_X5_fails
set_option maxRecDepth 20000 in
theorem ggX5_put_X5_within : GoodIn wsX5_put wsX5_within := goodIn_r _ [11] (by decide +kernel) (by decide +kernel)
set_option maxRecDepth 20000 in
theorem gX5_put_X5_within : GoodIn wsX5_put (va_wsS RX5 64 yX5_within wsX5_within) := goodIn_app (goodIn_of _ (by decide +kernel)) ggX5_put_X5_within
theorem dX5_put_0 : decode cX5_put 0 = .ok (.aload_n 0, 1) := by decide +kernel
theorem dX5_put_1 : decode cX5_put 1 = .ok (.iconst 0, 1) := by decide +kernel
theorem dX5_put_2 : decode cX5_put 2 = .ok (.putfield 58, 3) := by decide +kernel
theorem dX5_put_5 : decode cX5_put 5 = .ok (.iload_n 1, 1) := by decide +kernel
theorem dX5_put_6 : decode cX5_put 6 = .ok (.invokestatic 86, 3) := by decide +kernel
theorem dX5_put_9 : decode cX5_put 9 = .ok (.ifCond .ne 5, 3) := by decide +kernel
theorem dX5_put_12 : decode cX5_put 12 = .ok (.iconst (-1), 1) := by decide +kernel
theorem dX5_put_13 : decode cX5_put 13 = .ok (.ireturn, 1) := by decide +kernel
theorem dX5_put_14 : decode cX5_put 14 = .ok (.aload_n 0, 1) := by decide +kernel
theorem dX5_put_15 : decode cX5_put 15 = .ok (.getfield 9, 3) := by decide +kernel
theorem dX5_put_18 : decode cX5_put 18 = .ok (.iload_n 1, 1) := by decide +kernel
theorem dX5_put_19 : decode cX5_put 19 = .ok (.iaload, 1) := by decide +kernel
theorem dX5_put_20 : decode cX5_put 20 = .ok (.bipush (-9), 2) := by decide +kernel
theorem dX5_put_22 : decode cX5_put 22 = .ok (.if_icmp .ne 9, 3) := by decide +kernel
theorem dX5_put_25 : decode cX5_put 25 = .ok (.aload_n 0, 1) := by decide +kernel
theorem dX5_put_26 : decode cX5_put 26 = .ok (.iconst 1, 1) := by decide +kernel
theorem dX5_put_27 : decode cX5_put 27 = .ok (.invokevirtual 96, 3) := by decide +kernel
theorem dX5_put_30 : decode cX5_put 30 = .ok (.ireturn, 1) := by decide +kernel
theorem dX5_put_31 : decode cX5_put 31 = .ok (.iload_n 2, 1) := by decide +kernel
theorem dX5_put_32 : decode cX5_put 32 = .ok (.iconst 0, 1) := by decide +kernel
theorem dX5_put_33 : decode cX5_put 33 = .ok (.aload_n 0, 1) := by decide +kernel
theorem dX5_put_34 : decode cX5_put 34 = .ok (.getfield 13, 3) := by decide +kernel
theorem dX5_put_37 : decode cX5_put 37 = .ok (.iload_n 1, 1) := by decide +kernel
theorem dX5_put_38 : decode cX5_put 38 = .ok (.iaload, 1) := by decide +kernel
theorem dX5_put_39 : decode cX5_put 39 = .ok (.iconst 1, 1) := by decide +kernel
theorem dX5_put_40 : decode cX5_put 40 = .ok (.isub, 1) := by decide +kernel
theorem dX5_put_41 : decode cX5_put 41 = .ok (.invokestatic 64, 3) := by decide +kernel
theorem dX5_put_44 : decode cX5_put 44 = .ok (.ifCond .ne 9, 3) := by decide +kernel
theorem dX5_put_47 : decode cX5_put 47 = .ok (.aload_n 0, 1) := by decide +kernel
theorem dX5_put_48 : decode cX5_put 48 = .ok (.iconst 3, 1) := by decide +kernel
theorem dX5_put_49 : decode cX5_put 49 = .ok (.invokevirtual 96, 3) := by decide +kernel
theorem dX5_put_52 : decode cX5_put 52 = .ok (.ireturn, 1) := by decide +kernel
theorem dX5_put_53 : decode cX5_put 53 = .ok (.aload_n 0, 1) := by decide +kernel
theorem dX5_put_54 : decode cX5_put 54 = .ok (.getfield 16, 3) := by decide +kernel
theorem dX5_put_57 : decode cX5_put 57 = .ok (.bipush 60, 2) := by decide +kernel
theorem dX5_put_59 : decode cX5_put 59 = .ok (.iload_n 1, 1) := by decide +kernel
theorem dX5_put_60 : decode cX5_put 60 = .ok (.imul, 1) := by decide +kernel
theorem dX5_put_61 : decode cX5_put 61 = .ok (.iload_n 2, 1) := by decide +kernel
theorem dX5_put_62 : decode cX5_put 62 = .ok (.iadd, 1) := by decide +kernel
theorem dX5_put_63 : decode cX5_put 63 = .ok (.aload_n 0, 1) := by decide +kernel
theorem dX5_put_64 : decode cX5_put 64 = .ok (.getfield 9, 3) := by decide +kernel
theorem dX5_put_67 : decode cX5_put 67 = .ok (.iload_n 1, 1) := by decide +kernel
theorem dX5_put_68 : decode cX5_put 68 = .ok (.iaload, 1) := by decide +kernel
theorem dX5_put_69 : decode cX5_put 69 = .ok (.ifCond .ne 8, 3) := by decide +kernel
theorem dX5_put_72 : decode cX5_put 72 = .ok (.iload_n 3, 1) := by decide +kernel
theorem dX5_put_73 : decode cX5_put 73 = .ok (.i2b, 1) := by decide +kernel
theorem dX5_put_74 : decode cX5_put 74 = .ok (.goto 19, 3) := by decide +kernel
theorem dX5_put_77 : decode cX5_put 77 = .ok (.aload_n 0, 1) := by decide +kernel
theorem dX5_put_78 : decode cX5_put 78 = .ok (.getfield 9, 3) := by decide +kernel
theorem dX5_put_81 : decode cX5_put 81 = .ok (.iload_n 1, 1) := by decide +kernel
theorem dX5_put_82 : decode cX5_put 82 = .ok (.iaload, 1) := by decide +kernel
theorem dX5_put_83 : decode cX5_put 83 = .ok (.iconst 1, 1) := by decide +kernel
theorem dX5_put_84 : decode cX5_put 84 = .ok (.if_icmp .ne 8, 3) := by decide +kernel
theorem dX5_put_87 : decode cX5_put 87 = .ok (.iload_n 3, 1) := by decide +kernel
theorem dX5_put_88 : decode cX5_put 88 = .ok (.i2s, 1) := by decide +kernel
theorem dX5_put_89 : decode cX5_put 89 = .ok (.goto 4, 3) := by decide +kernel
theorem dX5_put_92 : decode cX5_put 92 = .ok (.iload_n 3, 1) := by decide +kernel
theorem dX5_put_93 : decode cX5_put 93 = .ok (.iastore, 1) := by decide +kernel
theorem dX5_put_94 : decode cX5_put 94 = .ok (.iconst 1, 1) := by decide +kernel
theorem dX5_put_95 : decode cX5_put 95 = .ok (.ireturn, 1) := by decide +kernel
set_option maxRecDepth 20000 in
theorem ggX5_cell_X5_isSheet : GoodIn wsX5_cell wsX5_isSheet := goodIn_r _ [9, 10, 11, 8, 12] (by decide +kernel) (by decide +kernel)
set_option maxRecDepth 20000 in
theorem gX5_cell_X5_isSheet : GoodIn wsX5_cell (va_wsS RX5 86 yX5_isSheet wsX5_isSheet) := goodIn_app (goodIn_of _ (by decide +kernel)) ggX5_cell_X5_isSheet
set_option maxRecDepth 20000 in
theorem ggX5_cell_X5_isSort : GoodIn wsX5_cell wsX5_isSort := goodIn_r _ [15, 10, 11, 8, 12] (by decide +kernel) (by decide +kernel)
set_option maxRecDepth 20000 in
theorem gX5_cell_X5_isSort : GoodIn wsX5_cell (va_wsS RX5 89 yX5_isSort wsX5_isSort) := goodIn_app (goodIn_of _ (by decide +kernel)) ggX5_cell_X5_isSort
set_option maxRecDepth 20000 in
theorem ggX5_cell_X5_lost : GoodIn wsX5_cell wsX5_lost := goodIn_r _ [19, 1, 2, 20, 21, 22, 23, 24, 25, 26, 27, 28, 29, 30, 31, 32, 33, 34, 35, 36, 37, 38, 39, 40, 41, 42, 43] (by decide +kernel) (by decide +kernel)
set_option maxRecDepth 20000 in
theorem gX5_cell_X5_lost : GoodIn wsX5_cell (wsV RX5 213 RX5 yX5_lost wsX5_lost) := goodIn_app (goodIn_of _ (by decide +kernel)) ggX5_cell_X5_lost
set_option maxRecDepth 20000 in
theorem ggX5_cell_X5_within : GoodIn wsX5_cell wsX5_within := goodIn_r _ [12] (by decide +kernel) (by decide +kernel)
set_option maxRecDepth 20000 in
theorem gX5_cell_X5_within : GoodIn wsX5_cell (va_wsS RX5 64 yX5_within wsX5_within) := goodIn_app (goodIn_of _ (by decide +kernel)) ggX5_cell_X5_within
theorem dX5_cell_0 : decode cX5_cell 0 = .ok (.aload_n 0, 1) := by decide +kernel
theorem dX5_cell_1 : decode cX5_cell 1 = .ok (.iconst 0, 1) := by decide +kernel
theorem dX5_cell_2 : decode cX5_cell 2 = .ok (.putfield 58, 3) := by decide +kernel
theorem dX5_cell_5 : decode cX5_cell 5 = .ok (.iload_n 1, 1) := by decide +kernel
theorem dX5_cell_6 : decode cX5_cell 6 = .ok (.invokestatic 86, 3) := by decide +kernel
theorem dX5_cell_9 : decode cX5_cell 9 = .ok (.ifCond .eq 10, 3) := by decide +kernel
theorem dX5_cell_12 : decode cX5_cell 12 = .ok (.iload_n 3, 1) := by decide +kernel
theorem dX5_cell_13 : decode cX5_cell 13 = .ok (.invokestatic 89, 3) := by decide +kernel
theorem dX5_cell_16 : decode cX5_cell 16 = .ok (.ifCond .ne 7, 3) := by decide +kernel
theorem dX5_cell_19 : decode cX5_cell 19 = .ok (.ldc2_w 62, 3) := by decide +kernel
theorem dX5_cell_22 : decode cX5_cell 22 = .ok (.lreturn, 1) := by decide +kernel
theorem dX5_cell_23 : decode cX5_cell 23 = .ok (.aload_n 0, 1) := by decide +kernel
theorem dX5_cell_24 : decode cX5_cell 24 = .ok (.getfield 9, 3) := by decide +kernel
theorem dX5_cell_27 : decode cX5_cell 27 = .ok (.iload_n 1, 1) := by decide +kernel
theorem dX5_cell_28 : decode cX5_cell 28 = .ok (.iaload, 1) := by decide +kernel
theorem dX5_cell_29 : decode cX5_cell 29 = .ok (.bipush (-9), 2) := by decide +kernel
theorem dX5_cell_31 : decode cX5_cell 31 = .ok (.if_icmp .eq 19, 3) := by decide +kernel
theorem dX5_cell_34 : decode cX5_cell 34 = .ok (.aload_n 0, 1) := by decide +kernel
theorem dX5_cell_35 : decode cX5_cell 35 = .ok (.getfield 9, 3) := by decide +kernel
theorem dX5_cell_38 : decode cX5_cell 38 = .ok (.iload_n 1, 1) := by decide +kernel
theorem dX5_cell_39 : decode cX5_cell 39 = .ok (.iaload, 1) := by decide +kernel
theorem dX5_cell_40 : decode cX5_cell 40 = .ok (.iload_n 3, 1) := by decide +kernel
theorem dX5_cell_41 : decode cX5_cell 41 = .ok (.if_icmp .eq 9, 3) := by decide +kernel
theorem dX5_cell_44 : decode cX5_cell 44 = .ok (.aload_n 0, 1) := by decide +kernel
theorem dX5_cell_45 : decode cX5_cell 45 = .ok (.iconst 2, 1) := by decide +kernel
theorem dX5_cell_46 : decode cX5_cell 46 = .ok (.invokevirtual 213, 3) := by decide +kernel
theorem dX5_cell_49 : decode cX5_cell 49 = .ok (.lreturn, 1) := by decide +kernel
theorem dX5_cell_50 : decode cX5_cell 50 = .ok (.aload_n 0, 1) := by decide +kernel
theorem dX5_cell_51 : decode cX5_cell 51 = .ok (.getfield 9, 3) := by decide +kernel
theorem dX5_cell_54 : decode cX5_cell 54 = .ok (.iload_n 1, 1) := by decide +kernel
theorem dX5_cell_55 : decode cX5_cell 55 = .ok (.iaload, 1) := by decide +kernel
theorem dX5_cell_56 : decode cX5_cell 56 = .ok (.bipush (-9), 2) := by decide +kernel
theorem dX5_cell_58 : decode cX5_cell 58 = .ok (.if_icmp .ne 9, 3) := by decide +kernel
theorem dX5_cell_61 : decode cX5_cell 61 = .ok (.aload_n 0, 1) := by decide +kernel
theorem dX5_cell_62 : decode cX5_cell 62 = .ok (.iconst 1, 1) := by decide +kernel
theorem dX5_cell_63 : decode cX5_cell 63 = .ok (.invokevirtual 213, 3) := by decide +kernel
theorem dX5_cell_66 : decode cX5_cell 66 = .ok (.lreturn, 1) := by decide +kernel
theorem dX5_cell_67 : decode cX5_cell 67 = .ok (.iload_n 2, 1) := by decide +kernel
theorem dX5_cell_68 : decode cX5_cell 68 = .ok (.iconst 0, 1) := by decide +kernel
theorem dX5_cell_69 : decode cX5_cell 69 = .ok (.aload_n 0, 1) := by decide +kernel
theorem dX5_cell_70 : decode cX5_cell 70 = .ok (.getfield 13, 3) := by decide +kernel
theorem dX5_cell_73 : decode cX5_cell 73 = .ok (.iload_n 1, 1) := by decide +kernel
theorem dX5_cell_74 : decode cX5_cell 74 = .ok (.iaload, 1) := by decide +kernel
theorem dX5_cell_75 : decode cX5_cell 75 = .ok (.iconst 1, 1) := by decide +kernel
theorem dX5_cell_76 : decode cX5_cell 76 = .ok (.isub, 1) := by decide +kernel
theorem dX5_cell_77 : decode cX5_cell 77 = .ok (.invokestatic 64, 3) := by decide +kernel
theorem dX5_cell_80 : decode cX5_cell 80 = .ok (.ifCond .ne 9, 3) := by decide +kernel
theorem dX5_cell_83 : decode cX5_cell 83 = .ok (.aload_n 0, 1) := by decide +kernel
theorem dX5_cell_84 : decode cX5_cell 84 = .ok (.iconst 3, 1) := by decide +kernel
theorem dX5_cell_85 : decode cX5_cell 85 = .ok (.invokevirtual 213, 3) := by decide +kernel
theorem dX5_cell_88 : decode cX5_cell 88 = .ok (.lreturn, 1) := by decide +kernel
theorem dX5_cell_89 : decode cX5_cell 89 = .ok (.aload_n 0, 1) := by decide +kernel
theorem dX5_cell_90 : decode cX5_cell 90 = .ok (.getfield 16, 3) := by decide +kernel
theorem dX5_cell_93 : decode cX5_cell 93 = .ok (.bipush 60, 2) := by decide +kernel
theorem dX5_cell_95 : decode cX5_cell 95 = .ok (.iload_n 1, 1) := by decide +kernel
theorem dX5_cell_96 : decode cX5_cell 96 = .ok (.imul, 1) := by decide +kernel
theorem dX5_cell_97 : decode cX5_cell 97 = .ok (.iload_n 2, 1) := by decide +kernel
theorem dX5_cell_98 : decode cX5_cell 98 = .ok (.iadd, 1) := by decide +kernel
theorem dX5_cell_99 : decode cX5_cell 99 = .ok (.iaload, 1) := by decide +kernel
theorem dX5_cell_100 : decode cX5_cell 100 = .ok (.i2l, 1) := by decide +kernel
theorem dX5_cell_101 : decode cX5_cell 101 = .ok (.lreturn, 1) := by decide +kernel
set_option maxRecDepth 20000 in
theorem ggX5_copy_X5_isSheet : GoodIn wsX5_copy wsX5_isSheet := goodIn_r _ [8, 9, 10, 7, 11] (by decide +kernel) (by decide +kernel)
set_option maxRecDepth 20000 in
theorem gX5_copy_X5_isSheet : GoodIn wsX5_copy (va_wsS RX5 86 yX5_isSheet wsX5_isSheet) := goodIn_app (goodIn_of _ (by decide +kernel)) ggX5_copy_X5_isSheet
set_option maxRecDepth 20000 in
theorem ggX5_copy_X5_fails : GoodIn wsX5_copy wsX5_fails := goodIn_r _ [15, 1, 16, 17, 18, 19, 20, 21, 22, 23, 24, 25, 26, 27, 28, 29, 30, 31, 32, 33, 34, 35, 36, 37, 38, 39] (by decide +kernel) (by decide +kernel)
set_option maxRecDepth 20000 in
theorem gX5_copy_X5_fails : GoodIn wsX5_copy (wsV RX5 96 RX5 yX5_fails wsX5_fails) := goodIn_app (goodIn_of _ (by decide +kernel)) ggX5_copy_X5_fails
theorem dX5_copy_0 : decode cX5_copy 0 = .ok (.aload_n 0, 1) := by decide +kernel
theorem dX5_copy_1 : decode cX5_copy 1 = .ok (.iconst 0, 1) := by decide +kernel
theorem dX5_copy_2 : decode cX5_copy 2 = .ok (.putfield 58, 3) := by decide +kernel
theorem dX5_copy_5 : decode cX5_copy 5 = .ok (.iload_n 1, 1) := by decide +kernel
theorem dX5_copy_6 : decode cX5_copy 6 = .ok (.invokestatic 86, 3) := by decide +kernel
theorem dX5_copy_9 : decode cX5_copy 9 = .ok (.ifCond .eq 10, 3) := by decide +kernel
theorem dX5_copy_12 : decode cX5_copy 12 = .ok (.iload_n 3, 1) := by decide +kernel
theorem dX5_copy_13 : decode cX5_copy 13 = .ok (.invokestatic 86, 3) := by decide +kernel
theorem dX5_copy_16 : decode cX5_copy 16 = .ok (.ifCond .ne 5, 3) := by decide +kernel
theorem dX5_copy_19 : decode cX5_copy 19 = .ok (.iconst (-1), 1) := by decide +kernel
theorem dX5_copy_20 : decode cX5_copy 20 = .ok (.ireturn, 1) := by decide +kernel
theorem dX5_copy_21 : decode cX5_copy 21 = .ok (.aload_n 0, 1) := by decide +kernel
theorem dX5_copy_22 : decode cX5_copy 22 = .ok (.getfield 9, 3) := by decide +kernel
theorem dX5_copy_25 : decode cX5_copy 25 = .ok (.iload_n 1, 1) := by decide +kernel
theorem dX5_copy_26 : decode cX5_copy 26 = .ok (.iaload, 1) := by decide +kernel
theorem dX5_copy_27 : decode cX5_copy 27 = .ok (.bipush (-9), 2) := by decide +kernel
theorem dX5_copy_29 : decode cX5_copy 29 = .ok (.if_icmp .eq 14, 3) := by decide +kernel
theorem dX5_copy_32 : decode cX5_copy 32 = .ok (.aload_n 0, 1) := by decide +kernel
theorem dX5_copy_33 : decode cX5_copy 33 = .ok (.getfield 9, 3) := by decide +kernel
theorem dX5_copy_36 : decode cX5_copy 36 = .ok (.iload_n 3, 1) := by decide +kernel
theorem dX5_copy_37 : decode cX5_copy 37 = .ok (.iaload, 1) := by decide +kernel
theorem dX5_copy_38 : decode cX5_copy 38 = .ok (.bipush (-9), 2) := by decide +kernel
theorem dX5_copy_40 : decode cX5_copy 40 = .ok (.if_icmp .ne 9, 3) := by decide +kernel
theorem dX5_copy_43 : decode cX5_copy 43 = .ok (.aload_n 0, 1) := by decide +kernel
theorem dX5_copy_44 : decode cX5_copy 44 = .ok (.iconst 1, 1) := by decide +kernel
theorem dX5_copy_45 : decode cX5_copy 45 = .ok (.invokevirtual 96, 3) := by decide +kernel
theorem dX5_copy_48 : decode cX5_copy 48 = .ok (.ireturn, 1) := by decide +kernel
theorem dX5_copy_49 : decode cX5_copy 49 = .ok (.aload_n 0, 1) := by decide +kernel
theorem dX5_copy_50 : decode cX5_copy 50 = .ok (.getfield 9, 3) := by decide +kernel
theorem dX5_copy_53 : decode cX5_copy 53 = .ok (.iload_n 1, 1) := by decide +kernel
theorem dX5_copy_54 : decode cX5_copy 54 = .ok (.iaload, 1) := by decide +kernel
theorem dX5_copy_55 : decode cX5_copy 55 = .ok (.aload_n 0, 1) := by decide +kernel
theorem dX5_copy_56 : decode cX5_copy 56 = .ok (.getfield 9, 3) := by decide +kernel
theorem dX5_copy_59 : decode cX5_copy 59 = .ok (.iload_n 3, 1) := by decide +kernel
theorem dX5_copy_60 : decode cX5_copy 60 = .ok (.iaload, 1) := by decide +kernel
theorem dX5_copy_61 : decode cX5_copy 61 = .ok (.if_icmp .eq 9, 3) := by decide +kernel
theorem dX5_copy_64 : decode cX5_copy 64 = .ok (.aload_n 0, 1) := by decide +kernel
theorem dX5_copy_65 : decode cX5_copy 65 = .ok (.iconst 2, 1) := by decide +kernel
theorem dX5_copy_66 : decode cX5_copy 66 = .ok (.invokevirtual 96, 3) := by decide +kernel
theorem dX5_copy_69 : decode cX5_copy 69 = .ok (.ireturn, 1) := by decide +kernel
theorem dX5_copy_70 : decode cX5_copy 70 = .ok (.iload_n 2, 1) := by decide +kernel
theorem dX5_copy_71 : decode cX5_copy 71 = .ok (.ifCond .lt 38, 3) := by decide +kernel
theorem dX5_copy_74 : decode cX5_copy 74 = .ok (.iload 4, 2) := by decide +kernel
theorem dX5_copy_76 : decode cX5_copy 76 = .ok (.ifCond .lt 33, 3) := by decide +kernel
theorem dX5_copy_79 : decode cX5_copy 79 = .ok (.iload 5, 2) := by decide +kernel
theorem dX5_copy_81 : decode cX5_copy 81 = .ok (.ifCond .lt 28, 3) := by decide +kernel
theorem dX5_copy_84 : decode cX5_copy 84 = .ok (.iload_n 2, 1) := by decide +kernel
theorem dX5_copy_85 : decode cX5_copy 85 = .ok (.aload_n 0, 1) := by decide +kernel
theorem dX5_copy_86 : decode cX5_copy 86 = .ok (.getfield 13, 3) := by decide +kernel
theorem dX5_copy_89 : decode cX5_copy 89 = .ok (.iload_n 1, 1) := by decide +kernel
theorem dX5_copy_90 : decode cX5_copy 90 = .ok (.iaload, 1) := by decide +kernel
theorem dX5_copy_91 : decode cX5_copy 91 = .ok (.if_icmp .gt 18, 3) := by decide +kernel
theorem dX5_copy_94 : decode cX5_copy 94 = .ok (.iload 4, 2) := by decide +kernel
theorem dX5_copy_96 : decode cX5_copy 96 = .ok (.aload_n 0, 1) := by decide +kernel
theorem dX5_copy_97 : decode cX5_copy 97 = .ok (.getfield 13, 3) := by decide +kernel
theorem dX5_copy_100 : decode cX5_copy 100 = .ok (.iload_n 3, 1) := by decide +kernel
theorem dX5_copy_101 : decode cX5_copy 101 = .ok (.iaload, 1) := by decide +kernel
theorem dX5_copy_102 : decode cX5_copy 102 = .ok (.if_icmp .gt 7, 3) := by decide +kernel
theorem dX5_copy_105 : decode cX5_copy 105 = .ok (.iconst 1, 1) := by decide +kernel
theorem dX5_copy_106 : decode cX5_copy 106 = .ok (.goto 4, 3) := by decide +kernel
theorem dX5_copy_109 : decode cX5_copy 109 = .ok (.iconst 0, 1) := by decide +kernel
theorem dX5_copy_110 : decode cX5_copy 110 = .ok (.istore 6, 2) := by decide +kernel
theorem dX5_copy_112 : decode cX5_copy 112 = .ok (.iload 6, 2) := by decide +kernel
theorem dX5_copy_114 : decode cX5_copy 114 = .ok (.ifCond .eq 30, 3) := by decide +kernel
theorem dX5_copy_117 : decode cX5_copy 117 = .ok (.iload 5, 2) := by decide +kernel
theorem dX5_copy_119 : decode cX5_copy 119 = .ok (.aload_n 0, 1) := by decide +kernel
theorem dX5_copy_120 : decode cX5_copy 120 = .ok (.getfield 13, 3) := by decide +kernel
theorem dX5_copy_123 : decode cX5_copy 123 = .ok (.iload_n 1, 1) := by decide +kernel
theorem dX5_copy_124 : decode cX5_copy 124 = .ok (.iaload, 1) := by decide +kernel
theorem dX5_copy_125 : decode cX5_copy 125 = .ok (.iload_n 2, 1) := by decide +kernel
theorem dX5_copy_126 : decode cX5_copy 126 = .ok (.isub, 1) := by decide +kernel
theorem dX5_copy_127 : decode cX5_copy 127 = .ok (.if_icmp .gt 17, 3) := by decide +kernel
theorem dX5_copy_130 : decode cX5_copy 130 = .ok (.iload 5, 2) := by decide +kernel
theorem dX5_copy_132 : decode cX5_copy 132 = .ok (.aload_n 0, 1) := by decide +kernel
theorem dX5_copy_133 : decode cX5_copy 133 = .ok (.getfield 13, 3) := by decide +kernel
theorem dX5_copy_136 : decode cX5_copy 136 = .ok (.iload_n 3, 1) := by decide +kernel
theorem dX5_copy_137 : decode cX5_copy 137 = .ok (.iaload, 1) := by decide +kernel
theorem dX5_copy_138 : decode cX5_copy 138 = .ok (.iload 4, 2) := by decide +kernel
theorem dX5_copy_140 : decode cX5_copy 140 = .ok (.isub, 1) := by decide +kernel
theorem dX5_copy_141 : decode cX5_copy 141 = .ok (.if_icmp .le 9, 3) := by decide +kernel
theorem dX5_copy_144 : decode cX5_copy 144 = .ok (.aload_n 0, 1) := by decide +kernel
theorem dX5_copy_145 : decode cX5_copy 145 = .ok (.iconst 3, 1) := by decide +kernel
theorem dX5_copy_146 : decode cX5_copy 146 = .ok (.invokevirtual 96, 3) := by decide +kernel
theorem dX5_copy_149 : decode cX5_copy 149 = .ok (.ireturn, 1) := by decide +kernel
theorem dX5_copy_150 : decode cX5_copy 150 = .ok (.iload_n 2, 1) := by decide +kernel
theorem dX5_copy_151 : decode cX5_copy 151 = .ok (.iload 4, 2) := by decide +kernel
theorem dX5_copy_153 : decode cX5_copy 153 = .ok (.if_icmp .ge 7, 3) := by decide +kernel
theorem dX5_copy_156 : decode cX5_copy 156 = .ok (.iconst 1, 1) := by decide +kernel
theorem dX5_copy_157 : decode cX5_copy 157 = .ok (.goto 4, 3) := by decide +kernel
theorem dX5_copy_160 : decode cX5_copy 160 = .ok (.iconst 0, 1) := by decide +kernel
theorem dX5_copy_161 : decode cX5_copy 161 = .ok (.istore 7, 2) := by decide +kernel
theorem dX5_copy_163 : decode cX5_copy 163 = .ok (.iconst 0, 1) := by decide +kernel
theorem dX5_copy_164 : decode cX5_copy 164 = .ok (.istore 8, 2) := by decide +kernel
theorem dX5_copy_166 : decode cX5_copy 166 = .ok (.iload 8, 2) := by decide +kernel
theorem dX5_copy_168 : decode cX5_copy 168 = .ok (.iload 5, 2) := by decide +kernel
theorem dX5_copy_170 : decode cX5_copy 170 = .ok (.if_icmp .ge 57, 3) := by decide +kernel
theorem dX5_copy_173 : decode cX5_copy 173 = .ok (.iload 7, 2) := by decide +kernel
theorem dX5_copy_175 : decode cX5_copy 175 = .ok (.ifCond .eq 13, 3) := by decide +kernel
theorem dX5_copy_178 : decode cX5_copy 178 = .ok (.iload 5, 2) := by decide +kernel
theorem dX5_copy_180 : decode cX5_copy 180 = .ok (.iconst 1, 1) := by decide +kernel
theorem dX5_copy_181 : decode cX5_copy 181 = .ok (.isub, 1) := by decide +kernel
theorem dX5_copy_182 : decode cX5_copy 182 = .ok (.iload 8, 2) := by decide +kernel
theorem dX5_copy_184 : decode cX5_copy 184 = .ok (.isub, 1) := by decide +kernel
theorem dX5_copy_185 : decode cX5_copy 185 = .ok (.goto 5, 3) := by decide +kernel
theorem dX5_copy_188 : decode cX5_copy 188 = .ok (.iload 8, 2) := by decide +kernel
theorem dX5_copy_190 : decode cX5_copy 190 = .ok (.istore 9, 2) := by decide +kernel
theorem dX5_copy_192 : decode cX5_copy 192 = .ok (.aload_n 0, 1) := by decide +kernel
theorem dX5_copy_193 : decode cX5_copy 193 = .ok (.getfield 16, 3) := by decide +kernel
theorem dX5_copy_196 : decode cX5_copy 196 = .ok (.bipush 60, 2) := by decide +kernel
theorem dX5_copy_198 : decode cX5_copy 198 = .ok (.iload_n 3, 1) := by decide +kernel
theorem dX5_copy_199 : decode cX5_copy 199 = .ok (.imul, 1) := by decide +kernel
theorem dX5_copy_200 : decode cX5_copy 200 = .ok (.iload 4, 2) := by decide +kernel
theorem dX5_copy_202 : decode cX5_copy 202 = .ok (.iadd, 1) := by decide +kernel
theorem dX5_copy_203 : decode cX5_copy 203 = .ok (.iload 9, 2) := by decide +kernel
theorem dX5_copy_205 : decode cX5_copy 205 = .ok (.iadd, 1) := by decide +kernel
theorem dX5_copy_206 : decode cX5_copy 206 = .ok (.aload_n 0, 1) := by decide +kernel
theorem dX5_copy_207 : decode cX5_copy 207 = .ok (.getfield 16, 3) := by decide +kernel
theorem dX5_copy_210 : decode cX5_copy 210 = .ok (.bipush 60, 2) := by decide +kernel
theorem dX5_copy_212 : decode cX5_copy 212 = .ok (.iload_n 1, 1) := by decide +kernel
theorem dX5_copy_213 : decode cX5_copy 213 = .ok (.imul, 1) := by decide +kernel
theorem dX5_copy_214 : decode cX5_copy 214 = .ok (.iload_n 2, 1) := by decide +kernel
theorem dX5_copy_215 : decode cX5_copy 215 = .ok (.iadd, 1) := by decide +kernel
theorem dX5_copy_216 : decode cX5_copy 216 = .ok (.iload 9, 2) := by decide +kernel
theorem dX5_copy_218 : decode cX5_copy 218 = .ok (.iadd, 1) := by decide +kernel
theorem dX5_copy_219 : decode cX5_copy 219 = .ok (.iaload, 1) := by decide +kernel
theorem dX5_copy_220 : decode cX5_copy 220 = .ok (.iastore, 1) := by decide +kernel
theorem dX5_copy_221 : decode cX5_copy 221 = .ok (.iinc 8 1, 3) := by decide +kernel
theorem dX5_copy_224 : decode cX5_copy 224 = .ok (.goto (-58), 3) := by decide +kernel
theorem dX5_copy_227 : decode cX5_copy 227 = .ok (.iload 5, 2) := by decide +kernel
theorem dX5_copy_229 : decode cX5_copy 229 = .ok (.ireturn, 1) := by decide +kernel
theorem dX5_begins_0 : decode cX5_begins 0 = .ok (.aload_n 0, 1) := by decide +kernel
theorem dX5_begins_1 : decode cX5_begins 1 = .ok (.bipush 31, 2) := by decide +kernel
theorem dX5_begins_3 : decode cX5_begins 3 = .ok (.aload_n 0, 1) := by decide +kernel
theorem dX5_begins_4 : decode cX5_begins 4 = .ok (.getfield 217, 3) := by decide +kernel
theorem dX5_begins_7 : decode cX5_begins 7 = .ok (.imul, 1) := by decide +kernel
theorem dX5_begins_8 : decode cX5_begins 8 = .ok (.iload_n 1, 1) := by decide +kernel
theorem dX5_begins_9 : decode cX5_begins 9 = .ok (.iadd, 1) := by decide +kernel
theorem dX5_begins_10 : decode cX5_begins 10 = .ok (.putfield 217, 3) := by decide +kernel
theorem dX5_begins_13 : decode cX5_begins 13 = .ok (.return_, 1) := by decide +kernel
set_option maxRecDepth 20000 in
theorem ggX5_tell_X5_isThing : GoodIn wsX5_tell wsX5_isThing := goodIn_r _ [6, 7, 18, 19, 20, 21, 22, 23, 24, 25, 26, 27, 28, 29, 30, 31, 32, 33, 34, 35, 36, 37, 38, 39, 40, 41] (by decide +kernel) (by decide +kernel)
set_option maxRecDepth 20000 in
theorem gX5_tell_X5_isThing : GoodIn wsX5_tell (wsV RX5 71 RX5 yX5_isThing wsX5_isThing) := goodIn_app (goodIn_of _ (by decide +kernel)) ggX5_tell_X5_isThing
set_option maxRecDepth 20000 in
theorem ggX5_tell_X5_levelOf : GoodIn wsX5_tell wsX5_levelOf := goodIn_r _ [11, 12, 18, 19, 20, 21, 22, 23, 24, 25, 26, 27, 28, 29, 30, 31, 32, 33, 34, 35, 36, 37, 38, 39, 40, 41] (by decide +kernel) (by decide +kernel)
set_option maxRecDepth 20000 in
theorem gX5_tell_X5_levelOf : GoodIn wsX5_tell (wsV RX5 124 RX5 yX5_levelOf wsX5_levelOf) := goodIn_app (goodIn_of _ (by decide +kernel)) ggX5_tell_X5_levelOf
set_option maxRecDepth 20000 in
theorem ggX5_tell_X5_begins : GoodIn wsX5_tell wsX5_begins := goodIn_r _ [16, 17, 18, 19, 20, 21, 22, 23, 24, 25, 26, 27, 28, 29, 30, 31, 32, 33, 34, 35, 36, 37, 38, 39, 40, 41] (by decide +kernel) (by decide +kernel)
set_option maxRecDepth 20000 in
theorem gX5_tell_X5_begins : GoodIn wsX5_tell (wsV RX5 220 RX5 yX5_begins wsX5_begins) := goodIn_app (goodIn_of _ (by decide +kernel)) ggX5_tell_X5_begins
theorem dX5_tell_0 : decode cX5_tell 0 = .ok (.aload_n 0, 1) := by decide +kernel
theorem dX5_tell_1 : decode cX5_tell 1 = .ok (.iload_n 1, 1) := by decide +kernel
theorem dX5_tell_2 : decode cX5_tell 2 = .ok (.invokevirtual 71, 3) := by decide +kernel
theorem dX5_tell_5 : decode cX5_tell 5 = .ok (.ifCond .ne 5, 3) := by decide +kernel
theorem dX5_tell_8 : decode cX5_tell 8 = .ok (.iconst (-1), 1) := by decide +kernel
theorem dX5_tell_9 : decode cX5_tell 9 = .ok (.ireturn, 1) := by decide +kernel
theorem dX5_tell_10 : decode cX5_tell 10 = .ok (.aload_n 0, 1) := by decide +kernel
theorem dX5_tell_11 : decode cX5_tell 11 = .ok (.iload_n 1, 1) := by decide +kernel
theorem dX5_tell_12 : decode cX5_tell 12 = .ok (.invokevirtual 124, 3) := by decide +kernel
theorem dX5_tell_15 : decode cX5_tell 15 = .ok (.istore_n 2, 1) := by decide +kernel
theorem dX5_tell_16 : decode cX5_tell 16 = .ok (.aload_n 0, 1) := by decide +kernel
theorem dX5_tell_17 : decode cX5_tell 17 = .ok (.getfield 19, 3) := by decide +kernel
theorem dX5_tell_20 : decode cX5_tell 20 = .ok (.iload_n 1, 1) := by decide +kernel
theorem dX5_tell_21 : decode cX5_tell 21 = .ok (.iaload, 1) := by decide +kernel
theorem dX5_tell_22 : decode cX5_tell 22 = .ok (.lookupswitch 68 #[(1, 26), (2, 41)], 26) := by decide +kernel
theorem dX5_tell_48 : decode cX5_tell 48 = .ok (.aload_n 0, 1) := by decide +kernel
theorem dX5_tell_49 : decode cX5_tell 49 = .ok (.iconst 2, 1) := by decide +kernel
theorem dX5_tell_50 : decode cX5_tell 50 = .ok (.invokevirtual 220, 3) := by decide +kernel
theorem dX5_tell_53 : decode cX5_tell 53 = .ok (.aload_n 0, 1) := by decide +kernel
theorem dX5_tell_54 : decode cX5_tell 54 = .ok (.iconst 1, 1) := by decide +kernel
theorem dX5_tell_55 : decode cX5_tell 55 = .ok (.invokevirtual 220, 3) := by decide +kernel
theorem dX5_tell_58 : decode cX5_tell 58 = .ok (.iload_n 2, 1) := by decide +kernel
theorem dX5_tell_59 : decode cX5_tell 59 = .ok (.bipush 100, 2) := by decide +kernel
theorem dX5_tell_61 : decode cX5_tell 61 = .ok (.iadd, 1) := by decide +kernel
theorem dX5_tell_62 : decode cX5_tell 62 = .ok (.ireturn, 1) := by decide +kernel
theorem dX5_tell_63 : decode cX5_tell 63 = .ok (.aload_n 0, 1) := by decide +kernel
theorem dX5_tell_64 : decode cX5_tell 64 = .ok (.iconst 3, 1) := by decide +kernel
theorem dX5_tell_65 : decode cX5_tell 65 = .ok (.invokevirtual 220, 3) := by decide +kernel
theorem dX5_tell_68 : decode cX5_tell 68 = .ok (.aload_n 0, 1) := by decide +kernel
theorem dX5_tell_69 : decode cX5_tell 69 = .ok (.iconst 2, 1) := by decide +kernel
theorem dX5_tell_70 : decode cX5_tell 70 = .ok (.invokevirtual 220, 3) := by decide +kernel
theorem dX5_tell_73 : decode cX5_tell 73 = .ok (.aload_n 0, 1) := by decide +kernel
theorem dX5_tell_74 : decode cX5_tell 74 = .ok (.iconst 1, 1) := by decide +kernel
theorem dX5_tell_75 : decode cX5_tell 75 = .ok (.invokevirtual 220, 3) := by decide +kernel
theorem dX5_tell_78 : decode cX5_tell 78 = .ok (.aload_n 0, 1) := by decide +kernel
theorem dX5_tell_79 : decode cX5_tell 79 = .ok (.iconst 1, 1) := by decide +kernel
theorem dX5_tell_80 : decode cX5_tell 80 = .ok (.invokevirtual 220, 3) := by decide +kernel
theorem dX5_tell_83 : decode cX5_tell 83 = .ok (.iconst 2, 1) := by decide +kernel
theorem dX5_tell_84 : decode cX5_tell 84 = .ok (.iload_n 2, 1) := by decide +kernel
theorem dX5_tell_85 : decode cX5_tell 85 = .ok (.imul, 1) := by decide +kernel
theorem dX5_tell_86 : decode cX5_tell 86 = .ok (.bipush 100, 2) := by decide +kernel
theorem dX5_tell_88 : decode cX5_tell 88 = .ok (.iadd, 1) := by decide +kernel
theorem dX5_tell_89 : decode cX5_tell 89 = .ok (.ireturn, 1) := by decide +kernel
theorem dX5_tell_90 : decode cX5_tell 90 = .ok (.aload_n 0, 1) := by decide +kernel
theorem dX5_tell_91 : decode cX5_tell 91 = .ok (.iconst 1, 1) := by decide +kernel
theorem dX5_tell_92 : decode cX5_tell 92 = .ok (.invokevirtual 220, 3) := by decide +kernel
theorem dX5_tell_95 : decode cX5_tell 95 = .ok (.iload_n 2, 1) := by decide +kernel
theorem dX5_tell_96 : decode cX5_tell 96 = .ok (.ireturn, 1) := by decide +kernel
set_option maxRecDepth 20000 in
theorem ggX5_hail_X5_isThing : GoodIn wsX5_hail wsX5_isThing := goodIn_r _ [6, 7, 13, 14, 15, 16, 17, 18, 19, 20, 21, 22, 23, 24, 25, 26, 27, 28, 29, 30, 31, 32, 33, 34, 35, 36] (by decide +kernel) (by decide +kernel)
set_option maxRecDepth 20000 in
theorem gX5_hail_X5_isThing : GoodIn wsX5_hail (wsV RX5 71 RX5 yX5_isThing wsX5_isThing) := goodIn_app (goodIn_of _ (by decide +kernel)) ggX5_hail_X5_isThing
set_option maxRecDepth 20000 in
theorem ggX5_hail_X5_begins : GoodIn wsX5_hail wsX5_begins := goodIn_r _ [11, 12, 13, 14, 15, 16, 17, 18, 19, 20, 21, 22, 23, 24, 25, 26, 27, 28, 29, 30, 31, 32, 33, 34, 35, 36] (by decide +kernel) (by decide +kernel)
set_option maxRecDepth 20000 in
theorem gX5_hail_X5_begins : GoodIn wsX5_hail (wsV RX5 220 RX5 yX5_begins wsX5_begins) := goodIn_app (goodIn_of _ (by decide +kernel)) ggX5_hail_X5_begins
theorem dX5_hail_0 : decode cX5_hail 0 = .ok (.aload_n 0, 1) := by decide +kernel
theorem dX5_hail_1 : decode cX5_hail 1 = .ok (.iload_n 1, 1) := by decide +kernel
theorem dX5_hail_2 : decode cX5_hail 2 = .ok (.invokevirtual 71, 3) := by decide +kernel
theorem dX5_hail_5 : decode cX5_hail 5 = .ok (.ifCond .ne 5, 3) := by decide +kernel
theorem dX5_hail_8 : decode cX5_hail 8 = .ok (.iconst (-1), 1) := by decide +kernel
theorem dX5_hail_9 : decode cX5_hail 9 = .ok (.ireturn, 1) := by decide +kernel
theorem dX5_hail_10 : decode cX5_hail 10 = .ok (.aload_n 0, 1) := by decide +kernel
theorem dX5_hail_11 : decode cX5_hail 11 = .ok (.aload_n 0, 1) := by decide +kernel
theorem dX5_hail_12 : decode cX5_hail 12 = .ok (.getfield 19, 3) := by decide +kernel
theorem dX5_hail_15 : decode cX5_hail 15 = .ok (.iload_n 1, 1) := by decide +kernel
theorem dX5_hail_16 : decode cX5_hail 16 = .ok (.iaload, 1) := by decide +kernel
theorem dX5_hail_17 : decode cX5_hail 17 = .ok (.iconst 2, 1) := by decide +kernel
theorem dX5_hail_18 : decode cX5_hail 18 = .ok (.if_icmp .ne 7, 3) := by decide +kernel
theorem dX5_hail_21 : decode cX5_hail 21 = .ok (.iconst 5, 1) := by decide +kernel
theorem dX5_hail_22 : decode cX5_hail 22 = .ok (.goto 4, 3) := by decide +kernel
theorem dX5_hail_25 : decode cX5_hail 25 = .ok (.iconst 4, 1) := by decide +kernel
theorem dX5_hail_26 : decode cX5_hail 26 = .ok (.invokevirtual 220, 3) := by decide +kernel
theorem dX5_hail_29 : decode cX5_hail 29 = .ok (.aload_n 0, 1) := by decide +kernel
theorem dX5_hail_30 : decode cX5_hail 30 = .ok (.getfield 19, 3) := by decide +kernel
theorem dX5_hail_33 : decode cX5_hail 33 = .ok (.iload_n 1, 1) := by decide +kernel
theorem dX5_hail_34 : decode cX5_hail 34 = .ok (.iaload, 1) := by decide +kernel
theorem dX5_hail_35 : decode cX5_hail 35 = .ok (.iconst 2, 1) := by decide +kernel
theorem dX5_hail_36 : decode cX5_hail 36 = .ok (.if_icmp .ne 8, 3) := by decide +kernel
theorem dX5_hail_39 : decode cX5_hail 39 = .ok (.bipush 60, 2) := by decide +kernel
theorem dX5_hail_41 : decode cX5_hail 41 = .ok (.goto 4, 3) := by decide +kernel
theorem dX5_hail_44 : decode cX5_hail 44 = .ok (.iload_n 1, 1) := by decide +kernel
theorem dX5_hail_45 : decode cX5_hail 45 = .ok (.ireturn, 1) := by decide +kernel
set_option maxRecDepth 20000 in
theorem ggX5_as_X5_isThing : GoodIn wsX5_as wsX5_isThing := goodIn_r _ [7, 8, 16, 17, 18, 19, 20, 21, 22, 23, 24, 25, 26, 27, 28, 29, 30, 31, 32, 33, 34, 35, 36, 37, 38, 39] (by decide +kernel) (by decide +kernel)
set_option maxRecDepth 20000 in
theorem gX5_as_X5_isThing : GoodIn wsX5_as (wsV RX5 71 RX5 yX5_isThing wsX5_isThing) := goodIn_app (goodIn_of _ (by decide +kernel)) ggX5_as_X5_isThing
set_option maxRecDepth 20000 in
theorem ggX5_as_X5_within : GoodIn wsX5_as wsX5_within := goodIn_r _ [11] (by decide +kernel) (by decide +kernel)
set_option maxRecDepth 20000 in
theorem gX5_as_X5_within : GoodIn wsX5_as (va_wsS RX5 64 yX5_within wsX5_within) := goodIn_app (goodIn_of _ (by decide +kernel)) ggX5_as_X5_within
set_option maxRecDepth 20000 in
theorem ggX5_as_X5_fails : GoodIn wsX5_as wsX5_fails := goodIn_r _ [15, 1, 16, 17, 18, 19, 20, 21, 22, 23, 24, 25, 26, 27, 28, 29, 30, 31, 32, 33, 34, 35, 36, 37, 38, 39] (by decide +kernel) (by decide +kernel)
set_option maxRecDepth 20000 in
theorem gX5_as_X5_fails : GoodIn wsX5_as (wsV RX5 96 RX5 yX5_fails wsX5_fails) := goodIn_app (goodIn_of _ (by decide +kernel)) ggX5_as_X5_fails
theorem dX5_as_0 : decode cX5_as 0 = .ok (.aload_n 0, 1) := by decide +kernel
theorem dX5_as_1 : decode cX5_as 1 = .ok (.iconst 0, 1) := by decide +kernel
theorem dX5_as_2 : decode cX5_as 2 = .ok (.putfield 58, 3) := by decide +kernel
theorem dX5_as_5 : decode cX5_as 5 = .ok (.aload_n 0, 1) := by decide +kernel
theorem dX5_as_6 : decode cX5_as 6 = .ok (.iload_n 1, 1) := by decide +kernel
theorem dX5_as_7 : decode cX5_as 7 = .ok (.invokevirtual 71, 3) := by decide +kernel
theorem dX5_as_10 : decode cX5_as 10 = .ok (.ifCond .ne 5, 3) := by decide +kernel
theorem dX5_as_13 : decode cX5_as 13 = .ok (.iconst (-1), 1) := by decide +kernel
theorem dX5_as_14 : decode cX5_as 14 = .ok (.ireturn, 1) := by decide +kernel
theorem dX5_as_15 : decode cX5_as 15 = .ok (.iload_n 2, 1) := by decide +kernel
theorem dX5_as_16 : decode cX5_as 16 = .ok (.iconst 0, 1) := by decide +kernel
theorem dX5_as_17 : decode cX5_as 17 = .ok (.iconst 2, 1) := by decide +kernel
theorem dX5_as_18 : decode cX5_as 18 = .ok (.invokestatic 64, 3) := by decide +kernel
theorem dX5_as_21 : decode cX5_as 21 = .ok (.ifCond .ne 6, 3) := by decide +kernel
theorem dX5_as_24 : decode cX5_as 24 = .ok (.bipush (-2), 2) := by decide +kernel
theorem dX5_as_26 : decode cX5_as 26 = .ok (.ireturn, 1) := by decide +kernel
theorem dX5_as_27 : decode cX5_as 27 = .ok (.aload_n 0, 1) := by decide +kernel
theorem dX5_as_28 : decode cX5_as 28 = .ok (.getfield 19, 3) := by decide +kernel
theorem dX5_as_31 : decode cX5_as 31 = .ok (.iload_n 1, 1) := by decide +kernel
theorem dX5_as_32 : decode cX5_as 32 = .ok (.iaload, 1) := by decide +kernel
theorem dX5_as_33 : decode cX5_as 33 = .ok (.iload_n 2, 1) := by decide +kernel
theorem dX5_as_34 : decode cX5_as 34 = .ok (.if_icmp .lt 7, 3) := by decide +kernel
theorem dX5_as_37 : decode cX5_as 37 = .ok (.iconst 1, 1) := by decide +kernel
theorem dX5_as_38 : decode cX5_as 38 = .ok (.goto 8, 3) := by decide +kernel
theorem dX5_as_41 : decode cX5_as 41 = .ok (.aload_n 0, 1) := by decide +kernel
theorem dX5_as_42 : decode cX5_as 42 = .ok (.iconst 2, 1) := by decide +kernel
theorem dX5_as_43 : decode cX5_as 43 = .ok (.invokevirtual 96, 3) := by decide +kernel
theorem dX5_as_46 : decode cX5_as 46 = .ok (.ireturn, 1) := by decide +kernel
theorem dX5_trace_0 : decode cX5_trace 0 = .ok (.aload_n 0, 1) := by decide +kernel
theorem dX5_trace_1 : decode cX5_trace 1 = .ok (.getfield 217, 3) := by decide +kernel
theorem dX5_trace_4 : decode cX5_trace 4 = .ok (.ireturn, 1) := by decide +kernel
theorem dX5_fault_0 : decode cX5_fault 0 = .ok (.aload_n 0, 1) := by decide +kernel
theorem dX5_fault_1 : decode cX5_fault 1 = .ok (.getfield 58, 3) := by decide +kernel
theorem dX5_fault_4 : decode cX5_fault 4 = .ok (.ireturn, 1) := by decide +kernel
set_option maxRecDepth 20000 in
theorem ggX5_many_X5_reachedBut : GoodIn wsX5_many wsX5_reachedBut := goodIn_r _ [8, 9, 10, 11, 7, 12, 2, 13, 14, 15, 16, 17, 34, 35, 36, 37, 38, 39, 40, 41, 42, 43, 44, 45, 46, 47, 48, 49, 50, 51, 52, 53, 54, 55, 56, 57] (by decide +kernel) (by decide +kernel)
set_option maxRecDepth 20000 in
theorem gX5_many_X5_reachedBut : GoodIn wsX5_many (wsV RX5 133 RX5 yX5_reachedBut wsX5_reachedBut) := goodIn_app (goodIn_of _ (by decide +kernel)) ggX5_many_X5_reachedBut
set_option maxRecDepth 20000 in
theorem ggX5_many_X5_size : GoodIn wsX5_many wsX5_size := goodIn_r _ [20] (by decide +kernel) (by decide +kernel)
set_option maxRecDepth 20000 in
theorem gX5_many_X5_size : GoodIn wsX5_many (va_wsS RX5 142 yX5_size wsX5_size) := goodIn_app (goodIn_of _ (by decide +kernel)) ggX5_many_X5_size
set_option maxRecDepth 20000 in
theorem ggX5_many_X5_unlawfulNow : GoodIn wsX5_many wsX5_unlawfulNow := goodIn_r _ [24, 1, 25, 26, 27, 7, 28, 29, 30, 31, 32, 33, 4, 5, 6, 8, 9, 10, 11, 12, 2, 13, 14, 15, 16, 17, 34, 35, 36, 37, 38, 39, 40, 41, 42, 43, 44, 45, 46, 47, 48, 49, 50, 51, 52, 53, 54, 55, 56, 57] (by decide +kernel) (by decide +kernel)
set_option maxRecDepth 20000 in
theorem gX5_many_X5_unlawfulNow : GoodIn wsX5_many (wsV RX5 198 RX5 yX5_unlawfulNow wsX5_unlawfulNow) := goodIn_app (goodIn_of _ (by decide +kernel)) ggX5_many_X5_unlawfulNow
theorem dX5_many_0 : decode cX5_many 0 = .ok (.iload_n 1, 1) := by decide +kernel
theorem dX5_many_1 : decode cX5_many 1 = .ok (.tableswitch 68 0 4 #[35, 40, 45, 55, 63], 35) := by decide +kernel
theorem dX5_many_36 : decode cX5_many 36 = .ok (.aload_n 0, 1) := by decide +kernel
theorem dX5_many_37 : decode cX5_many 37 = .ok (.getfield 68, 3) := by decide +kernel
theorem dX5_many_40 : decode cX5_many 40 = .ok (.ireturn, 1) := by decide +kernel
theorem dX5_many_41 : decode cX5_many 41 = .ok (.aload_n 0, 1) := by decide +kernel
theorem dX5_many_42 : decode cX5_many 42 = .ok (.getfield 109, 3) := by decide +kernel
theorem dX5_many_45 : decode cX5_many 45 = .ok (.ireturn, 1) := by decide +kernel
theorem dX5_many_46 : decode cX5_many 46 = .ok (.aload_n 0, 1) := by decide +kernel
theorem dX5_many_47 : decode cX5_many 47 = .ok (.bipush (-9), 2) := by decide +kernel
theorem dX5_many_49 : decode cX5_many 49 = .ok (.invokevirtual 133, 3) := by decide +kernel
theorem dX5_many_52 : decode cX5_many 52 = .ok (.invokestatic 142, 3) := by decide +kernel
theorem dX5_many_55 : decode cX5_many 55 = .ok (.ireturn, 1) := by decide +kernel
theorem dX5_many_56 : decode cX5_many 56 = .ok (.aload_n 0, 1) := by decide +kernel
theorem dX5_many_57 : decode cX5_many 57 = .ok (.invokevirtual 198, 3) := by decide +kernel
theorem dX5_many_60 : decode cX5_many 60 = .ok (.invokestatic 142, 3) := by decide +kernel
theorem dX5_many_63 : decode cX5_many 63 = .ok (.ireturn, 1) := by decide +kernel
theorem dX5_many_64 : decode cX5_many 64 = .ok (.aload_n 0, 1) := by decide +kernel
theorem dX5_many_65 : decode cX5_many 65 = .ok (.getfield 112, 3) := by decide +kernel
theorem dX5_many_68 : decode cX5_many 68 = .ok (.ireturn, 1) := by decide +kernel
theorem dX5_many_69 : decode cX5_many 69 = .ok (.bipush (-2), 2) := by decide +kernel
theorem dX5_many_71 : decode cX5_many 71 = .ok (.ireturn, 1) := by decide +kernel
theorem dJ6_bitCount_0f7a4_0 : decode cJ6_bitCount_0f7a4 0 = .ok (.iload_n 0, 1) := by decide +kernel
theorem dJ6_bitCount_0f7a4_1 : decode cJ6_bitCount_0f7a4 1 = .ok (.iload_n 0, 1) := by decide +kernel
theorem dJ6_bitCount_0f7a4_2 : decode cJ6_bitCount_0f7a4 2 = .ok (.iconst 1, 1) := by decide +kernel
theorem dJ6_bitCount_0f7a4_3 : decode cJ6_bitCount_0f7a4 3 = .ok (.iushr, 1) := by decide +kernel
theorem dJ6_bitCount_0f7a4_4 : decode cJ6_bitCount_0f7a4 4 = .ok (.ldc_w 265, 3) := by decide +kernel
theorem dJ6_bitCount_0f7a4_7 : decode cJ6_bitCount_0f7a4 7 = .ok (.iand, 1) := by decide +kernel
theorem dJ6_bitCount_0f7a4_8 : decode cJ6_bitCount_0f7a4 8 = .ok (.isub, 1) := by decide +kernel
theorem dJ6_bitCount_0f7a4_9 : decode cJ6_bitCount_0f7a4 9 = .ok (.istore_n 0, 1) := by decide +kernel
theorem dJ6_bitCount_0f7a4_10 : decode cJ6_bitCount_0f7a4 10 = .ok (.iload_n 0, 1) := by decide +kernel
theorem dJ6_bitCount_0f7a4_11 : decode cJ6_bitCount_0f7a4 11 = .ok (.ldc_w 266, 3) := by decide +kernel
theorem dJ6_bitCount_0f7a4_14 : decode cJ6_bitCount_0f7a4 14 = .ok (.iand, 1) := by decide +kernel
theorem dJ6_bitCount_0f7a4_15 : decode cJ6_bitCount_0f7a4 15 = .ok (.iload_n 0, 1) := by decide +kernel
theorem dJ6_bitCount_0f7a4_16 : decode cJ6_bitCount_0f7a4 16 = .ok (.iconst 2, 1) := by decide +kernel
theorem dJ6_bitCount_0f7a4_17 : decode cJ6_bitCount_0f7a4 17 = .ok (.iushr, 1) := by decide +kernel
theorem dJ6_bitCount_0f7a4_18 : decode cJ6_bitCount_0f7a4 18 = .ok (.ldc_w 266, 3) := by decide +kernel
theorem dJ6_bitCount_0f7a4_21 : decode cJ6_bitCount_0f7a4 21 = .ok (.iand, 1) := by decide +kernel
theorem dJ6_bitCount_0f7a4_22 : decode cJ6_bitCount_0f7a4 22 = .ok (.iadd, 1) := by decide +kernel
theorem dJ6_bitCount_0f7a4_23 : decode cJ6_bitCount_0f7a4 23 = .ok (.istore_n 0, 1) := by decide +kernel
theorem dJ6_bitCount_0f7a4_24 : decode cJ6_bitCount_0f7a4 24 = .ok (.iload_n 0, 1) := by decide +kernel
theorem dJ6_bitCount_0f7a4_25 : decode cJ6_bitCount_0f7a4 25 = .ok (.iload_n 0, 1) := by decide +kernel
theorem dJ6_bitCount_0f7a4_26 : decode cJ6_bitCount_0f7a4 26 = .ok (.iconst 4, 1) := by decide +kernel
theorem dJ6_bitCount_0f7a4_27 : decode cJ6_bitCount_0f7a4 27 = .ok (.iushr, 1) := by decide +kernel
theorem dJ6_bitCount_0f7a4_28 : decode cJ6_bitCount_0f7a4 28 = .ok (.iadd, 1) := by decide +kernel
theorem dJ6_bitCount_0f7a4_29 : decode cJ6_bitCount_0f7a4 29 = .ok (.ldc_w 267, 3) := by decide +kernel
theorem dJ6_bitCount_0f7a4_32 : decode cJ6_bitCount_0f7a4 32 = .ok (.iand, 1) := by decide +kernel
theorem dJ6_bitCount_0f7a4_33 : decode cJ6_bitCount_0f7a4 33 = .ok (.istore_n 0, 1) := by decide +kernel
theorem dJ6_bitCount_0f7a4_34 : decode cJ6_bitCount_0f7a4 34 = .ok (.iload_n 0, 1) := by decide +kernel
theorem dJ6_bitCount_0f7a4_35 : decode cJ6_bitCount_0f7a4 35 = .ok (.iload_n 0, 1) := by decide +kernel
theorem dJ6_bitCount_0f7a4_36 : decode cJ6_bitCount_0f7a4 36 = .ok (.bipush 8, 2) := by decide +kernel
theorem dJ6_bitCount_0f7a4_38 : decode cJ6_bitCount_0f7a4 38 = .ok (.iushr, 1) := by decide +kernel
theorem dJ6_bitCount_0f7a4_39 : decode cJ6_bitCount_0f7a4 39 = .ok (.iadd, 1) := by decide +kernel
theorem dJ6_bitCount_0f7a4_40 : decode cJ6_bitCount_0f7a4 40 = .ok (.istore_n 0, 1) := by decide +kernel
theorem dJ6_bitCount_0f7a4_41 : decode cJ6_bitCount_0f7a4 41 = .ok (.iload_n 0, 1) := by decide +kernel
theorem dJ6_bitCount_0f7a4_42 : decode cJ6_bitCount_0f7a4 42 = .ok (.iload_n 0, 1) := by decide +kernel
theorem dJ6_bitCount_0f7a4_43 : decode cJ6_bitCount_0f7a4 43 = .ok (.bipush 16, 2) := by decide +kernel
theorem dJ6_bitCount_0f7a4_45 : decode cJ6_bitCount_0f7a4 45 = .ok (.iushr, 1) := by decide +kernel
theorem dJ6_bitCount_0f7a4_46 : decode cJ6_bitCount_0f7a4 46 = .ok (.iadd, 1) := by decide +kernel
theorem dJ6_bitCount_0f7a4_47 : decode cJ6_bitCount_0f7a4 47 = .ok (.istore_n 0, 1) := by decide +kernel
theorem dJ6_bitCount_0f7a4_48 : decode cJ6_bitCount_0f7a4 48 = .ok (.iload_n 0, 1) := by decide +kernel
theorem dJ6_bitCount_0f7a4_49 : decode cJ6_bitCount_0f7a4 49 = .ok (.bipush 63, 2) := by decide +kernel
theorem dJ6_bitCount_0f7a4_51 : decode cJ6_bitCount_0f7a4 51 = .ok (.iand, 1) := by decide +kernel
theorem dJ6_bitCount_0f7a4_52 : decode cJ6_bitCount_0f7a4 52 = .ok (.ireturn, 1) := by decide +kernel
theorem dJ9_max_7cf53_0 : decode cJ9_max_7cf53 0 = .ok (.iload_n 0, 1) := by decide +kernel
theorem dJ9_max_7cf53_1 : decode cJ9_max_7cf53 1 = .ok (.iload_n 1, 1) := by decide +kernel
theorem dJ9_max_7cf53_2 : decode cJ9_max_7cf53 2 = .ok (.if_icmp .lt 7, 3) := by decide +kernel
theorem dJ9_max_7cf53_5 : decode cJ9_max_7cf53 5 = .ok (.iload_n 0, 1) := by decide +kernel
theorem dJ9_max_7cf53_6 : decode cJ9_max_7cf53 6 = .ok (.goto 4, 3) := by decide +kernel
theorem dJ9_max_7cf53_9 : decode cJ9_max_7cf53 9 = .ok (.iload_n 1, 1) := by decide +kernel
theorem dJ9_max_7cf53_10 : decode cJ9_max_7cf53 10 = .ok (.ireturn, 1) := by decide +kernel
set_option maxRecDepth 20000 in
theorem ggL_law_X4_init : GoodIn wsL_law wsX4_init := goodIn_r _ [8, 9, 10, 11, 12, 13, 14, 15, 16, 17, 18, 19, 20, 21, 22, 23, 24, 25, 26, 27, 28, 29, 30, 31, 32, 33, 34, 35, 36, 37, 38, 39, 40, 41, 42, 43, 44, 45, 46, 47, 48, 49, 50, 51, 52, 53, 54, 55, 56, 57, 58, 59, 60, 61, 62, 63, 64, 65, 66, 855, 856, 857, 858, 859, 860, 861, 824, 825, 826, 827, 828, 829, 830, 862, 863, 864, 865, 866, 867, 868, 869, 870, 871, 872, 873] (by decide +kernel) (by decide +kernel)
set_option maxRecDepth 20000 in
theorem gL_law_X4_init : GoodIn wsL_law (wsX4_init) := ggL_law_X4_init
set_option maxRecDepth 20000 in
theorem ggL_law_X5_init : GoodIn wsL_law wsX5_init := goodIn_r _ [69, 70, 10, 11, 37, 71, 72, 73, 74, 75, 76, 77, 78, 79, 80, 81, 82, 83, 84, 85, 86, 831, 832, 833, 834, 835, 836, 837, 838, 839, 840, 841, 842, 843, 844, 845, 846, 847, 848, 849, 850, 851, 852, 853, 854] (by decide +kernel) (by decide +kernel)
set_option maxRecDepth 20000 in
theorem gL_law_X5_init : GoodIn wsL_law (wsX5_init) := ggL_law_X5_init
set_option maxRecDepth 20000 in
theorem ggL_law_X4_things : GoodIn wsL_law wsX4_things := goodIn_r _ [90, 30, 22, 28, 15, 16, 20, 91, 92, 2, 93, 94, 95, 96, 97, 98, 99, 100, 101, 102, 24, 103, 55, 104, 105, 106, 107, 56, 108, 109, 110, 111, 112, 113, 114, 115, 116, 117, 118, 27, 119, 62, 63, 64, 65, 66, 120, 121, 122, 14, 123, 35, 36, 124, 125, 126, 127, 128, 129, 130, 131, 132, 133, 134, 135, 57, 136, 137, 138, 139, 140, 141, 142, 143, 144, 145, 146, 147, 148, 149, 150, 151, 152, 153, 154, 155, 156, 157, 158, 159, 38, 39, 160, 161, 162, 163, 164, 165, 166, 167, 168, 169, 170, 171, 40, 41, 172, 173, 174, 175, 176, 177, 178, 179, 180, 181, 182, 183, 184, 185, 186, 19, 187, 47, 188, 189, 190, 191, 192, 193, 194, 195, 824, 825, 826, 827, 828, 829, 830, 866, 867, 868, 869, 870, 871, 872, 873, 855, 856, 857, 858, 859, 860, 861, 862, 863, 864, 865] (by decide +kernel) (by decide +kernel)
set_option maxRecDepth 20000 in
theorem gL_law_X4_things : GoodIn wsL_law (wsV RL 13 RX4 yX4_things wsX4_things) := goodIn_app (goodIn_of _ (by decide +kernel)) ggL_law_X4_things
set_option maxRecDepth 20000 in
theorem ggL_law_X5_things : GoodIn wsL_law wsX5_things := goodIn_r _ [199, 200, 201, 202, 203, 204, 205, 74, 78, 75, 79, 76, 80, 77, 81, 206, 207, 208, 5, 209, 210, 211, 212, 213, 214, 215, 216, 217, 218, 219, 71, 72, 220, 221, 222, 223, 224, 225, 226, 227, 73, 228, 229, 230, 231, 232, 233, 234, 235, 236, 237, 238, 239, 240, 241, 242, 243, 244, 245, 246, 247, 831, 832, 833, 834, 835, 836, 837, 838, 839, 840, 841, 842, 843, 844, 845, 846, 847, 848, 849, 850, 851, 852, 853, 854] (by decide +kernel) (by decide +kernel)
set_option maxRecDepth 20000 in
theorem gL_law_X5_things : GoodIn wsL_law (wsV RL 17 RX5 yX5_things wsX5_things) := goodIn_app (goodIn_of _ (by decide +kernel)) ggL_law_X5_things
set_option maxRecDepth 20000 in
theorem ggL_law_X4_ofThing : GoodIn wsL_law wsX4_ofThing := goodIn_r _ [251, 15, 252, 153, 154, 14, 155, 35, 253, 254, 255, 256, 38, 257, 258, 259, 260, 261, 39, 262, 263, 264, 265, 266, 267, 268, 269, 270, 271, 272, 273, 274, 275, 276, 2, 277, 278, 279, 280, 281, 36, 40, 41, 282, 283, 284, 285, 286, 287, 288, 289, 290, 291, 292, 293, 294, 295, 296, 297, 298, 299, 300, 301, 302, 303, 304, 305, 306, 307, 308, 309, 310, 311, 312, 313, 314, 315, 316, 317, 318, 319, 320, 321, 322, 323, 324, 325, 326, 327, 328, 329, 330, 824, 825, 826, 827, 828, 829, 830, 855, 856, 857, 858, 859, 860, 861] (by decide +kernel) (by decide +kernel)
set_option maxRecDepth 20000 in
theorem gL_law_X4_ofThing : GoodIn wsL_law (wsV RL 18 RX4 yX4_ofThing wsX4_ofThing) := goodIn_app (goodIn_of _ (by decide +kernel)) ggL_law_X4_ofThing
set_option maxRecDepth 20000 in
theorem ggL_law_X5_ofThing : GoodIn wsL_law wsX5_ofThing := goodIn_r _ [334, 74, 75, 335, 336, 337, 5, 338, 203, 339, 340, 341, 342, 343, 344, 345, 346, 347, 348, 349, 350, 205, 76, 77, 351, 352, 353, 354, 355, 356, 357, 358, 359, 360, 361, 362, 363, 364, 365, 366, 367, 368, 369, 370, 371, 372, 373, 374, 375, 376, 377, 378, 379, 380, 831, 832, 833, 834, 835, 836, 837, 838, 839, 840, 841, 842, 843, 844, 845, 846, 847, 848, 849, 850, 851, 852, 853, 854] (by decide +kernel) (by decide +kernel)
set_option maxRecDepth 20000 in
theorem gL_law_X5_ofThing : GoodIn wsL_law (wsV RL 22 RX5 yX5_ofThing wsX5_ofThing) := goodIn_app (goodIn_of _ (by decide +kernel)) ggL_law_X5_ofThing
set_option maxRecDepth 20000 in
theorem ggL_law_X4_refers : GoodIn wsL_law wsX4_refers := goodIn_r _ [384, 15, 385, 302, 303, 14, 304, 35, 257, 153, 154, 155, 252, 386, 169, 170, 171, 36, 40, 41, 293, 294, 2, 295, 824, 825, 826, 827, 828, 829, 830, 855, 856, 857, 858, 859, 860, 861] (by decide +kernel) (by decide +kernel)
set_option maxRecDepth 20000 in
theorem gL_law_X4_refers : GoodIn wsL_law (wsV RL 23 RX4 yX4_refers wsX4_refers) := goodIn_app (goodIn_of _ (by decide +kernel)) ggL_law_X4_refers
set_option maxRecDepth 20000 in
theorem ggL_law_X5_refers : GoodIn wsL_law wsX5_refers := goodIn_r _ [390, 391, 392, 393, 5, 394, 203, 335, 336, 337, 338, 395, 396, 397, 398, 205, 76, 77, 831, 832, 833, 834, 835, 836, 837, 838, 839, 840, 841, 842, 843, 844, 845, 846, 847, 848, 849, 850, 851, 852, 853, 854] (by decide +kernel) (by decide +kernel)
set_option maxRecDepth 20000 in
theorem gL_law_X5_refers : GoodIn wsL_law (wsV RL 26 RX5 yX5_refers wsX5_refers) := goodIn_app (goodIn_of _ (by decide +kernel)) ggL_law_X5_refers
set_option maxRecDepth 20000 in
theorem ggL_law_X4_place : GoodIn wsL_law wsX4_place := goodIn_r _ [402, 15, 385, 302, 303, 14, 304, 35, 257, 153, 154, 155, 252, 386, 169, 170, 171, 36, 40, 41, 824, 825, 826, 827, 828, 829, 830, 855, 856, 857, 858, 859, 860, 861] (by decide +kernel) (by decide +kernel)
set_option maxRecDepth 20000 in
theorem gL_law_X4_place : GoodIn wsL_law (wsV RL 27 RX4 yX4_place wsX4_place) := goodIn_app (goodIn_of _ (by decide +kernel)) ggL_law_X4_place
set_option maxRecDepth 20000 in
theorem ggL_law_X5_place : GoodIn wsL_law wsX5_place := goodIn_r _ [406, 391, 392, 393, 5, 394, 203, 335, 336, 337, 338, 395, 396, 397, 398, 205, 76, 77, 831, 832, 833, 834, 835, 836, 837, 838, 839, 840, 841, 842, 843, 844, 845, 846, 847, 848, 849, 850, 851, 852, 853, 854] (by decide +kernel) (by decide +kernel)
set_option maxRecDepth 20000 in
theorem gL_law_X5_place : GoodIn wsL_law (wsV RL 30 RX5 yX5_place wsX5_place) := goodIn_app (goodIn_of _ (by decide +kernel)) ggL_law_X5_place
set_option maxRecDepth 20000 in
theorem ggL_law_X4_refer : GoodIn wsL_law wsX4_refer := goodIn_r _ [410, 15, 411, 412, 413, 14, 414, 36, 301, 302, 303, 304, 35, 257, 153, 154, 155, 415, 169, 170, 171, 40, 41, 416, 417, 418, 419, 420, 173, 174, 175, 824, 825, 826, 827, 828, 829, 830, 855, 856, 857, 858, 859, 860, 861] (by decide +kernel) (by decide +kernel)
set_option maxRecDepth 20000 in
theorem gL_law_X4_refer : GoodIn wsL_law (wsV RL 31 RX4 yX4_refer wsX4_refer) := goodIn_app (goodIn_of _ (by decide +kernel)) ggL_law_X4_refer
set_option maxRecDepth 20000 in
theorem ggL_law_X5_refer : GoodIn wsL_law wsX5_refer := goodIn_r _ [424, 205, 391, 392, 393, 5, 394, 203, 335, 336, 337, 338, 425, 426, 427, 428, 395, 396, 397, 398, 76, 77, 429, 430, 431, 432, 433, 434, 435, 436, 831, 832, 833, 834, 835, 836, 837, 838, 839, 840, 841, 842, 843, 844, 845, 846, 847, 848, 849, 850, 851, 852, 853, 854] (by decide +kernel) (by decide +kernel)
set_option maxRecDepth 20000 in
theorem gL_law_X5_refer : GoodIn wsL_law (wsV RL 34 RX5 yX5_refer wsX5_refer) := goodIn_app (goodIn_of _ (by decide +kernel)) ggL_law_X5_refer
set_option maxRecDepth 20000 in
theorem ggL_law_X4_own : GoodIn wsL_law wsX4_own := goodIn_r _ [440, 15, 441, 442, 443, 14, 444, 39, 257, 153, 154, 155, 35, 301, 302, 303, 304, 445, 446, 447, 448, 824, 825, 826, 827, 828, 829, 830, 855, 856, 857, 858, 859, 860, 861] (by decide +kernel) (by decide +kernel)
set_option maxRecDepth 20000 in
theorem gL_law_X4_own : GoodIn wsL_law (wsV RL 35 RX4 yX4_own wsX4_own) := goodIn_app (goodIn_of _ (by decide +kernel)) ggL_law_X4_own
set_option maxRecDepth 20000 in
theorem ggL_law_X5_own : GoodIn wsL_law wsX5_own := goodIn_r _ [452, 75, 335, 336, 337, 5, 338, 203, 391, 392, 393, 394, 453, 454, 455, 456, 457, 458, 459, 460, 831, 832, 833, 834, 835, 836, 837, 838, 839, 840, 841, 842, 843, 844, 845, 846, 847, 848, 849, 850, 851, 852, 853, 854] (by decide +kernel) (by decide +kernel)
set_option maxRecDepth 20000 in
theorem gL_law_X5_own : GoodIn wsL_law (wsV RL 38 RX5 yX5_own wsX5_own) := goodIn_app (goodIn_of _ (by decide +kernel)) ggL_law_X5_own
set_option maxRecDepth 20000 in
theorem ggL_law_X4_hand : GoodIn wsL_law wsX4_hand := goodIn_r _ [464, 15, 465, 466, 467, 14, 468, 40, 39, 257, 153, 154, 155, 35, 469, 470, 471, 472, 36, 41, 445, 446, 447, 448, 824, 825, 826, 827, 828, 829, 830, 855, 856, 857, 858, 859, 860, 861] (by decide +kernel) (by decide +kernel)
set_option maxRecDepth 20000 in
theorem gL_law_X4_hand : GoodIn wsL_law (wsV RL 39 RX4 yX4_hand wsX4_hand) := goodIn_app (goodIn_of _ (by decide +kernel)) ggL_law_X4_hand
set_option maxRecDepth 20000 in
theorem ggL_law_X5_hand : GoodIn wsL_law wsX5_hand := goodIn_r _ [476, 76, 75, 335, 336, 337, 5, 338, 203, 477, 478, 479, 480, 205, 77, 457, 458, 459, 460, 831, 832, 833, 834, 835, 836, 837, 838, 839, 840, 841, 842, 843, 844, 845, 846, 847, 848, 849, 850, 851, 852, 853, 854] (by decide +kernel) (by decide +kernel)
set_option maxRecDepth 20000 in
theorem gL_law_X5_hand : GoodIn wsL_law (wsV RL 42 RX5 yX5_hand wsX5_hand) := goodIn_app (goodIn_of _ (by decide +kernel)) ggL_law_X5_hand
set_option maxRecDepth 20000 in
theorem ggL_law_X4_day : GoodIn wsL_law wsX4_day := goodIn_r _ [484, 30, 22, 15, 16, 91, 92, 2, 93, 94, 95, 96, 97, 98, 99, 485, 486, 487, 100, 101, 102, 24, 103, 55, 104, 105, 106, 107, 56, 108, 109, 110, 111, 112, 113, 114, 115, 192, 193, 194, 14, 195, 35, 488, 489, 490, 491, 133, 134, 135, 57, 176, 177, 178, 179, 36, 38, 180, 181, 182, 183, 39, 40, 41, 492, 493, 494, 495, 496, 497, 498, 499, 411, 412, 413, 414, 301, 302, 303, 304, 257, 153, 154, 155, 415, 169, 170, 171, 416, 417, 418, 419, 420, 173, 174, 175, 441, 442, 443, 444, 445, 446, 447, 448, 465, 466, 467, 468, 469, 470, 471, 472, 500, 501, 502, 503, 504, 505, 506, 507, 508, 509, 510, 511, 512, 306, 307, 308, 309, 259, 260, 261, 288, 289, 290, 291, 276, 277, 278, 279, 280, 281, 282, 283, 284, 285, 286, 287, 513, 514, 515, 516, 517, 518, 519, 520, 521, 267, 268, 269, 270, 263, 264, 265, 271, 254, 255, 256, 252, 258, 824, 825, 826, 827, 828, 829, 830, 866, 867, 868, 855, 856, 857, 858, 859, 860, 861] (by decide +kernel) (by decide +kernel)
set_option maxRecDepth 20000 in
theorem gL_law_X4_day : GoodIn wsL_law (wsV RL 43 RX4 yX4_day wsX4_day) := goodIn_app (goodIn_of _ (by decide +kernel)) ggL_law_X4_day
set_option maxRecDepth 20000 in
theorem ggL_law_X5_day : GoodIn wsL_law wsX5_day := goodIn_r _ [525, 200, 203, 73, 207, 208, 5, 209, 210, 211, 212, 213, 214, 215, 216, 217, 218, 219, 71, 72, 220, 221, 222, 223, 526, 527, 528, 529, 82, 205, 76, 77, 75, 530, 531, 532, 533, 534, 535, 536, 537, 391, 392, 393, 394, 335, 336, 337, 338, 425, 426, 427, 428, 395, 396, 397, 398, 429, 430, 431, 432, 433, 434, 435, 436, 453, 454, 455, 456, 457, 458, 459, 460, 477, 478, 479, 480, 538, 539, 540, 541, 542, 543, 544, 545, 366, 367, 368, 369, 362, 363, 364, 365, 351, 352, 353, 354, 355, 356, 357, 358, 359, 360, 361, 343, 344, 345, 346, 74, 339, 340, 341, 342, 546, 547, 548, 549, 831, 832, 833, 834, 835, 836, 837, 838, 839, 840, 841, 842, 843, 844, 845, 846, 847, 848, 849, 850, 851, 852, 853, 854] (by decide +kernel) (by decide +kernel)
set_option maxRecDepth 20000 in
theorem gL_law_X5_day : GoodIn wsL_law (wsV RL 47 RX5 yX5_day wsX5_day) := goodIn_app (goodIn_of _ (by decide +kernel)) ggL_law_X5_day
set_option maxRecDepth 20000 in
theorem ggL_law_X4_unlawful : GoodIn wsL_law wsX4_unlawful := goodIn_r _ [553, 15, 192, 193, 194, 14, 195, 35, 508, 509, 510, 511, 512, 306, 307, 308, 309, 259, 260, 261, 39, 257, 153, 154, 155, 288, 289, 290, 291, 276, 2, 277, 278, 279, 280, 281, 36, 40, 41, 282, 283, 824, 825, 826, 827, 828, 829, 830, 855, 856, 857, 858, 859, 860, 861] (by decide +kernel) (by decide +kernel)
set_option maxRecDepth 20000 in
theorem gL_law_X4_unlawful : GoodIn wsL_law (wsV RL 48 RX4 yX4_unlawful wsX4_unlawful) := goodIn_app (goodIn_of _ (by decide +kernel)) ggL_law_X4_unlawful
set_option maxRecDepth 20000 in
theorem ggL_law_X5_unlawful : GoodIn wsL_law wsX5_unlawful := goodIn_r _ [557, 203, 542, 543, 544, 5, 545, 366, 367, 368, 369, 75, 362, 363, 364, 365, 351, 352, 353, 354, 355, 356, 357, 358, 205, 76, 77, 359, 360, 361, 831, 832, 833, 834, 835, 836, 837, 838, 839, 840, 841, 842, 843, 844, 845, 846, 847, 848, 849, 850, 851, 852, 853, 854] (by decide +kernel) (by decide +kernel)
set_option maxRecDepth 20000 in
theorem gL_law_X5_unlawful : GoodIn wsL_law (wsV RL 52 RX5 yX5_unlawful wsX5_unlawful) := goodIn_app (goodIn_of _ (by decide +kernel)) ggL_law_X5_unlawful
set_option maxRecDepth 20000 in
theorem ggL_law_X4_past : GoodIn wsL_law wsX4_past := goodIn_r _ [561, 15, 252, 153, 154, 14, 155, 35, 94, 95, 2, 96, 562, 563, 564, 565, 42, 276, 277, 566, 567, 568, 569, 36, 41, 40, 282, 283, 309, 259, 260, 261, 39, 257, 570, 571, 572, 573, 574, 575, 273, 274, 275, 278, 279, 280, 281, 576, 577, 578, 579, 824, 825, 826, 827, 828, 829, 830, 855, 856, 857, 858, 859, 860, 861] (by decide +kernel) (by decide +kernel)
set_option maxRecDepth 20000 in
theorem gL_law_X4_past : GoodIn wsL_law (wsV RL 53 RX4 yX4_past wsX4_past) := goodIn_app (goodIn_of _ (by decide +kernel)) ggL_law_X4_past
set_option maxRecDepth 20000 in
theorem ggL_law_X5_past : GoodIn wsL_law wsX5_past := goodIn_r _ [583, 75, 83, 335, 336, 337, 5, 338, 203, 210, 211, 212, 584, 585, 586, 587, 205, 76, 77, 395, 396, 397, 398, 831, 832, 833, 834, 835, 836, 837, 838, 839, 840, 841, 842, 843, 844, 845, 846, 847, 848, 849, 850, 851, 852, 853, 854] (by decide +kernel) (by decide +kernel)
set_option maxRecDepth 20000 in
theorem gL_law_X5_past : GoodIn wsL_law (wsV RL 56 RX5 yX5_past wsX5_past) := goodIn_app (goodIn_of _ (by decide +kernel)) ggL_law_X5_past
set_option maxRecDepth 20000 in
theorem ggL_law_X4_locks : GoodIn wsL_law wsX4_locks := goodIn_r _ [591, 30, 22, 15, 91, 92, 2, 93, 94, 95, 96, 97, 98, 99, 100, 101, 102, 24, 103, 55, 104, 105, 106, 107, 56, 108, 109, 110, 111, 112, 113, 114, 115, 192, 193, 194, 14, 195, 35, 592, 593, 594, 595, 491, 133, 134, 135, 57, 252, 153, 154, 155, 596, 597, 598, 599, 266, 267, 268, 269, 270, 263, 264, 265, 39, 257, 271, 254, 255, 256, 38, 824, 825, 826, 827, 828, 829, 830, 866, 867, 868, 855, 856, 857, 858, 859, 860, 861] (by decide +kernel) (by decide +kernel)
set_option maxRecDepth 20000 in
theorem gL_law_X4_locks : GoodIn wsL_law (wsV RL 57 RX4 yX4_locks wsX4_locks) := goodIn_app (goodIn_of _ (by decide +kernel)) ggL_law_X4_locks
set_option maxRecDepth 20000 in
theorem ggL_law_X5_locks : GoodIn wsL_law wsX5_locks := goodIn_r _ [603, 200, 203, 73, 207, 208, 5, 209, 210, 211, 212, 213, 214, 215, 216, 217, 218, 219, 71, 72, 220, 221, 222, 223, 335, 336, 337, 338, 343, 344, 345, 346, 74, 339, 340, 341, 342, 75, 831, 832, 833, 834, 835, 836, 837, 838, 839, 840, 841, 842, 843, 844, 845, 846, 847, 848, 849, 850, 851, 852, 853, 854] (by decide +kernel) (by decide +kernel)
set_option maxRecDepth 20000 in
theorem gL_law_X5_locks : GoodIn wsL_law (wsV RL 60 RX5 yX5_locks wsX5_locks) := goodIn_app (goodIn_of _ (by decide +kernel)) ggL_law_X5_locks
set_option maxRecDepth 20000 in
theorem ggL_law_X4_reading : GoodIn wsL_law wsX4_reading := goodIn_r _ [607, 15, 20, 252, 153, 154, 14, 155, 35, 94, 95, 2, 96, 608, 609, 610, 19, 611, 47, 48, 49, 50, 824, 825, 826, 827, 828, 829, 830, 855, 856, 857, 858, 859, 860, 861, 862, 863, 864, 865] (by decide +kernel) (by decide +kernel)
set_option maxRecDepth 20000 in
theorem gL_law_X4_reading : GoodIn wsL_law (wsV RL 61 RX4 yX4_reading wsX4_reading) := goodIn_app (goodIn_of _ (by decide +kernel)) ggL_law_X4_reading
set_option maxRecDepth 20000 in
theorem ggL_law_X5_reading : GoodIn wsL_law wsX5_reading := goodIn_r _ [615, 206, 84, 85, 86, 335, 336, 337, 5, 338, 203, 210, 211, 212, 831, 832, 833, 834, 835, 836, 837, 838, 839, 840, 841, 842, 843, 844, 845, 846, 847, 848, 849, 850, 851, 852, 853, 854] (by decide +kernel) (by decide +kernel)
set_option maxRecDepth 20000 in
theorem gL_law_X5_reading : GoodIn wsL_law (wsV RL 65 RX5 yX5_reading wsX5_reading) := goodIn_app (goodIn_of _ (by decide +kernel)) ggL_law_X5_reading
set_option maxRecDepth 20000 in
theorem ggL_law_X4_back : GoodIn wsL_law wsX4_back := goodIn_r _ [619, 20, 184, 185, 186, 19, 187, 47, 94, 95, 2, 96, 188, 189, 190, 191, 824, 825, 826, 827, 828, 829, 830, 862, 863, 864, 865] (by decide +kernel) (by decide +kernel)
set_option maxRecDepth 20000 in
theorem gL_law_X4_back : GoodIn wsL_law (wsV RL 66 RX4 yX4_back wsX4_back) := goodIn_app (goodIn_of _ (by decide +kernel)) ggL_law_X4_back
set_option maxRecDepth 20000 in
theorem ggL_law_X5_back : GoodIn wsL_law wsX5_back := goodIn_r _ [623, 206, 210, 211, 5, 212, 831, 832, 833, 834, 835, 836, 837, 838, 839, 840, 841, 842, 843, 844, 845, 846, 847, 848, 849, 850, 851, 852, 853, 854] (by decide +kernel) (by decide +kernel)
set_option maxRecDepth 20000 in
theorem gL_law_X5_back : GoodIn wsL_law (wsV RL 70 RX5 yX5_back wsX5_back) := goodIn_app (goodIn_of _ (by decide +kernel)) ggL_law_X5_back
set_option maxRecDepth 20000 in
theorem ggL_law_X4_kinds : GoodIn wsL_law wsX4_kinds := goodIn_r _ [627, 15, 16, 20, 252, 153, 154, 14, 155, 35, 176, 177, 178, 179, 36, 38, 180, 181, 182, 183, 39, 40, 41, 628, 629, 630, 631, 257, 632, 633, 634, 19, 635, 47, 48, 49, 50, 636, 267, 268, 269, 270, 263, 264, 265, 271, 254, 255, 256, 294, 2, 295, 637, 276, 277, 824, 825, 826, 827, 828, 829, 830, 855, 856, 857, 858, 859, 860, 861, 862, 863, 864, 865] (by decide +kernel) (by decide +kernel)
set_option maxRecDepth 20000 in
theorem gL_law_X4_kinds : GoodIn wsL_law (wsV RL 71 RX4 yX4_kinds wsX4_kinds) := goodIn_app (goodIn_of _ (by decide +kernel)) ggL_law_X4_kinds
set_option maxRecDepth 20000 in
theorem ggL_law_X5_kinds : GoodIn wsL_law wsX5_kinds := goodIn_r _ [641, 74, 335, 336, 337, 5, 338, 203, 642, 643, 644, 645, 206, 84, 85, 86, 343, 344, 345, 346, 339, 340, 341, 342, 75, 831, 832, 833, 834, 835, 836, 837, 838, 839, 840, 841, 842, 843, 844, 845, 846, 847, 848, 849, 850, 851, 852, 853, 854] (by decide +kernel) (by decide +kernel)
set_option maxRecDepth 20000 in
theorem gL_law_X5_kinds : GoodIn wsL_law (wsV RL 74 RX5 yX5_kinds wsX5_kinds) := goodIn_app (goodIn_of _ (by decide +kernel)) ggL_law_X5_kinds
set_option maxRecDepth 20000 in
theorem ggL_law_X4_owners : GoodIn wsL_law wsX4_owners := goodIn_r _ [649, 15, 16, 20, 252, 153, 154, 14, 155, 35, 176, 177, 178, 179, 36, 38, 180, 181, 182, 183, 39, 40, 41, 441, 442, 443, 444, 257, 301, 302, 303, 304, 445, 446, 447, 448, 632, 633, 634, 19, 635, 47, 48, 49, 50, 636, 267, 268, 269, 270, 263, 264, 265, 271, 254, 255, 256, 294, 2, 295, 637, 276, 277, 824, 825, 826, 827, 828, 829, 830, 855, 856, 857, 858, 859, 860, 861, 862, 863, 864, 865] (by decide +kernel) (by decide +kernel)
set_option maxRecDepth 20000 in
theorem gL_law_X4_owners : GoodIn wsL_law (wsV RL 75 RX4 yX4_owners wsX4_owners) := goodIn_app (goodIn_of _ (by decide +kernel)) ggL_law_X4_owners
set_option maxRecDepth 20000 in
theorem ggL_law_X5_owners : GoodIn wsL_law wsX5_owners := goodIn_r _ [653, 75, 203, 335, 336, 337, 5, 338, 453, 454, 455, 456, 457, 458, 459, 460, 359, 360, 361, 642, 643, 644, 645, 206, 84, 85, 86, 343, 344, 345, 346, 74, 339, 340, 341, 342, 831, 832, 833, 834, 835, 836, 837, 838, 839, 840, 841, 842, 843, 844, 845, 846, 847, 848, 849, 850, 851, 852, 853, 854] (by decide +kernel) (by decide +kernel)
set_option maxRecDepth 20000 in
theorem gL_law_X5_owners : GoodIn wsL_law (wsV RL 78 RX5 yX5_owners wsX5_owners) := goodIn_app (goodIn_of _ (by decide +kernel)) ggL_law_X5_owners
set_option maxRecDepth 20000 in
theorem ggL_law_X4_odds : GoodIn wsL_law wsX4_odds := goodIn_r _ [657, 15, 658, 504, 505, 506, 14, 507, 36, 94, 95, 2, 96, 659, 660, 661, 662, 16, 176, 177, 178, 179, 35, 38, 180, 181, 182, 183, 39, 40, 41, 663, 417, 418, 419, 508, 509, 510, 511, 512, 306, 307, 308, 309, 259, 260, 261, 257, 153, 154, 155, 288, 289, 290, 291, 276, 277, 278, 279, 280, 281, 282, 283, 664, 665, 666, 824, 825, 826, 827, 828, 829, 830, 855, 856, 857, 858, 859, 860, 861] (by decide +kernel) (by decide +kernel)
set_option maxRecDepth 20000 in
theorem gL_law_X4_odds : GoodIn wsL_law (wsV RL 79 RX4 yX4_odds wsX4_odds) := goodIn_app (goodIn_of _ (by decide +kernel)) ggL_law_X4_odds
set_option maxRecDepth 20000 in
theorem ggL_law_X5_odds : GoodIn wsL_law wsX5_odds := goodIn_r _ [670, 205, 671, 76, 77, 210, 211, 5, 212, 429, 430, 431, 432, 542, 543, 544, 545, 203, 366, 367, 368, 369, 75, 362, 363, 364, 365, 351, 352, 353, 354, 355, 356, 357, 358, 359, 360, 361, 433, 434, 435, 436, 672, 673, 674, 831, 832, 833, 834, 835, 836, 837, 838, 839, 840, 841, 842, 843, 844, 845, 846, 847, 848, 849, 850, 851, 852, 853, 854] (by decide +kernel) (by decide +kernel)
set_option maxRecDepth 20000 in
theorem gL_law_X5_odds : GoodIn wsL_law (wsV RL 83 RX5 yX5_odds wsX5_odds) := goodIn_app (goodIn_of _ (by decide +kernel)) ggL_law_X5_odds
set_option maxRecDepth 20000 in
theorem ggL_law_X4_sheet : GoodIn wsL_law wsX4_sheet := goodIn_r _ [678, 30, 22, 91, 92, 2, 93, 94, 95, 96, 97, 98, 99, 112, 113, 114, 115, 679, 680, 681, 24, 682, 55, 56, 57, 824, 825, 826, 827, 828, 829, 830, 866, 867, 868] (by decide +kernel) (by decide +kernel)
set_option maxRecDepth 20000 in
theorem gL_law_X4_sheet : GoodIn wsL_law (wsV RL 84 RX4 yX4_sheet wsX4_sheet) := goodIn_app (goodIn_of _ (by decide +kernel)) ggL_law_X4_sheet
set_option maxRecDepth 20000 in
theorem ggL_law_X5_sheet : GoodIn wsL_law wsX5_sheet := goodIn_r _ [686, 200, 71, 72, 73, 207, 208, 5, 209, 210, 211, 212, 213, 214, 215, 220, 221, 222, 223, 831, 832, 833, 834, 835, 836, 837, 838, 839, 840, 841, 842, 843, 844, 845, 846, 847, 848, 849, 850, 851, 852, 853, 854] (by decide +kernel) (by decide +kernel)
set_option maxRecDepth 20000 in
theorem gL_law_X5_sheet : GoodIn wsL_law (wsV RL 87 RX5 yX5_sheet wsX5_sheet) := goodIn_app (goodIn_of _ (by decide +kernel)) ggL_law_X5_sheet
set_option maxRecDepth 20000 in
theorem ggL_law_X4_lose : GoodIn wsL_law wsX4_lose := goodIn_r _ [690, 22, 91, 92, 2, 93, 94, 95, 96, 691, 105, 106, 24, 107, 56, 692, 693, 694, 695, 293, 294, 295, 824, 825, 826, 827, 828, 829, 830, 866, 867, 868] (by decide +kernel) (by decide +kernel)
set_option maxRecDepth 20000 in
theorem gL_law_X4_lose : GoodIn wsL_law (wsV RL 88 RX4 yX4_lose wsX4_lose) := goodIn_app (goodIn_of _ (by decide +kernel)) ggL_law_X4_lose
set_option maxRecDepth 20000 in
theorem ggL_law_X5_lose : GoodIn wsL_law wsX5_lose := goodIn_r _ [699, 71, 207, 208, 5, 209, 210, 211, 212, 831, 832, 833, 834, 835, 836, 837, 838, 839, 840, 841, 842, 843, 844, 845, 846, 847, 848, 849, 850, 851, 852, 853, 854] (by decide +kernel) (by decide +kernel)
set_option maxRecDepth 20000 in
theorem gL_law_X5_lose : GoodIn wsL_law (wsV RL 91 RX5 yX5_lose wsX5_lose) := goodIn_app (goodIn_of _ (by decide +kernel)) ggL_law_X5_lose
set_option maxRecDepth 20000 in
theorem ggL_law_X4_put : GoodIn wsL_law wsX4_put := goodIn_r _ [703, 30, 22, 91, 92, 2, 93, 94, 95, 96, 704, 705, 706, 24, 707, 55, 100, 101, 102, 103, 104, 105, 106, 107, 56, 108, 109, 110, 111, 112, 113, 114, 115, 708, 709, 710, 711, 57, 712, 713, 714, 715, 824, 825, 826, 827, 828, 829, 830, 866, 867, 868] (by decide +kernel) (by decide +kernel)
set_option maxRecDepth 20000 in
theorem gL_law_X4_put : GoodIn wsL_law (wsV RL 92 RX4 yX4_put wsX4_put) := goodIn_app (goodIn_of _ (by decide +kernel)) ggL_law_X4_put
set_option maxRecDepth 20000 in
theorem ggL_law_X5_put : GoodIn wsL_law wsX5_put := goodIn_r _ [719, 200, 71, 72, 73, 207, 208, 5, 209, 210, 211, 212, 220, 221, 222, 223, 831, 832, 833, 834, 835, 836, 837, 838, 839, 840, 841, 842, 843, 844, 845, 846, 847, 848, 849, 850, 851, 852, 853, 854] (by decide +kernel) (by decide +kernel)
set_option maxRecDepth 20000 in
theorem gL_law_X5_put : GoodIn wsL_law (wsV RL 95 RX5 yX5_put wsX5_put) := goodIn_app (goodIn_of _ (by decide +kernel)) ggL_law_X5_put
set_option maxRecDepth 20000 in
theorem ggL_law_X4_cell : GoodIn wsL_law wsX4_cell := goodIn_r _ [723, 30, 658, 22, 91, 92, 2, 93, 94, 95, 96, 97, 98, 99, 100, 101, 102, 24, 103, 55, 104, 105, 106, 107, 56, 108, 109, 110, 111, 491, 133, 134, 135, 57, 824, 825, 826, 827, 828, 829, 830, 866, 867, 868] (by decide +kernel) (by decide +kernel)
set_option maxRecDepth 20000 in
theorem gL_law_X4_cell : GoodIn wsL_law (wsV RL 96 RX4 yX4_cell wsX4_cell) := goodIn_app (goodIn_of _ (by decide +kernel)) ggL_law_X4_cell
set_option maxRecDepth 20000 in
theorem ggL_law_X5_cell : GoodIn wsL_law wsX5_cell := goodIn_r _ [727, 200, 671, 71, 72, 73, 207, 208, 5, 209, 210, 211, 212, 213, 214, 215, 728, 729, 730, 731, 831, 832, 833, 834, 835, 836, 837, 838, 839, 840, 841, 842, 843, 844, 845, 846, 847, 848, 849, 850, 851, 852, 853, 854] (by decide +kernel) (by decide +kernel)
set_option maxRecDepth 20000 in
theorem gL_law_X5_cell : GoodIn wsL_law (wsV RL 100 RX5 yX5_cell wsX5_cell) := goodIn_app (goodIn_of _ (by decide +kernel)) ggL_law_X5_cell
set_option maxRecDepth 20000 in
theorem ggL_law_X4_copy : GoodIn wsL_law wsX4_copy := goodIn_r _ [735, 30, 22, 91, 92, 2, 93, 94, 95, 96, 691, 105, 106, 24, 107, 56, 112, 113, 114, 115, 704, 705, 706, 707, 55, 736, 109, 110, 111, 737, 738, 739, 740, 57, 741, 181, 182, 183, 108, 824, 825, 826, 827, 828, 829, 830, 866, 867, 868] (by decide +kernel) (by decide +kernel)
set_option maxRecDepth 20000 in
theorem gL_law_X4_copy : GoodIn wsL_law (wsV RL 101 RX4 yX4_copy wsX4_copy) := goodIn_app (goodIn_of _ (by decide +kernel)) ggL_law_X4_copy
set_option maxRecDepth 20000 in
theorem ggL_law_X5_copy : GoodIn wsL_law wsX5_copy := goodIn_r _ [745, 200, 71, 72, 73, 207, 208, 5, 209, 210, 211, 212, 220, 221, 222, 223, 831, 832, 833, 834, 835, 836, 837, 838, 839, 840, 841, 842, 843, 844, 845, 846, 847, 848, 849, 850, 851, 852, 853, 854] (by decide +kernel) (by decide +kernel)
set_option maxRecDepth 20000 in
theorem gL_law_X5_copy : GoodIn wsL_law (wsV RL 104 RX5 yX5_copy wsX5_copy) := goodIn_app (goodIn_of _ (by decide +kernel)) ggL_law_X5_copy
set_option maxRecDepth 20000 in
theorem ggL_law_X4_tell : GoodIn wsL_law wsX4_tell := goodIn_r _ [749, 15, 252, 153, 154, 14, 155, 35, 253, 254, 255, 256, 38, 257, 750, 751, 752, 2, 753, 754, 755, 756, 757, 29, 758, 759, 760, 761, 262, 263, 264, 265, 39, 762, 763, 764, 765, 824, 825, 826, 827, 828, 829, 830, 855, 856, 857, 858, 859, 860, 861] (by decide +kernel) (by decide +kernel)
set_option maxRecDepth 20000 in
theorem gL_law_X4_tell : GoodIn wsL_law (wsV RL 105 RX4 yX4_tell wsX4_tell) := goodIn_app (goodIn_of _ (by decide +kernel)) ggL_law_X4_tell
set_option maxRecDepth 20000 in
theorem ggL_law_X5_tell : GoodIn wsL_law wsX5_tell := goodIn_r _ [769, 74, 335, 336, 337, 5, 338, 203, 339, 340, 341, 342, 75, 770, 771, 772, 773, 774, 831, 832, 833, 834, 835, 836, 837, 838, 839, 840, 841, 842, 843, 844, 845, 846, 847, 848, 849, 850, 851, 852, 853, 854] (by decide +kernel) (by decide +kernel)
set_option maxRecDepth 20000 in
theorem gL_law_X5_tell : GoodIn wsL_law (wsV RL 108 RX5 yX5_tell wsX5_tell) := goodIn_app (goodIn_of _ (by decide +kernel)) ggL_law_X5_tell
set_option maxRecDepth 20000 in
theorem ggL_law_X4_hail : GoodIn wsL_law wsX4_hail := goodIn_r _ [778, 15, 252, 153, 154, 14, 155, 35, 253, 254, 255, 256, 38, 257, 779, 780, 781, 2, 782, 754, 755, 756, 757, 29, 783, 784, 785, 786, 824, 825, 826, 827, 828, 829, 830, 855, 856, 857, 858, 859, 860, 861] (by decide +kernel) (by decide +kernel)
set_option maxRecDepth 20000 in
theorem gL_law_X4_hail : GoodIn wsL_law (wsV RL 109 RX4 yX4_hail wsX4_hail) := goodIn_app (goodIn_of _ (by decide +kernel)) ggL_law_X4_hail
set_option maxRecDepth 20000 in
theorem ggL_law_X5_hail : GoodIn wsL_law wsX5_hail := goodIn_r _ [790, 74, 335, 336, 337, 5, 338, 203, 770, 771, 772, 773, 774, 831, 832, 833, 834, 835, 836, 837, 838, 839, 840, 841, 842, 843, 844, 845, 846, 847, 848, 849, 850, 851, 852, 853, 854] (by decide +kernel) (by decide +kernel)
set_option maxRecDepth 20000 in
theorem gL_law_X5_hail : GoodIn wsL_law (wsV RL 112 RX5 yX5_hail wsX5_hail) := goodIn_app (goodIn_of _ (by decide +kernel)) ggL_law_X5_hail
set_option maxRecDepth 20000 in
theorem ggL_law_X4_as : GoodIn wsL_law wsX4_as := goodIn_r _ [794, 30, 15, 252, 153, 154, 14, 155, 35, 94, 95, 2, 96, 253, 254, 255, 256, 38, 257, 112, 113, 114, 115, 824, 825, 826, 827, 828, 829, 830, 855, 856, 857, 858, 859, 860, 861] (by decide +kernel) (by decide +kernel)
set_option maxRecDepth 20000 in
theorem gL_law_X4_as : GoodIn wsL_law (wsV RL 113 RX4 yX4_as wsX4_as) := goodIn_app (goodIn_of _ (by decide +kernel)) ggL_law_X4_as
set_option maxRecDepth 20000 in
theorem ggL_law_X5_as : GoodIn wsL_law wsX5_as := goodIn_r _ [798, 200, 74, 335, 336, 337, 5, 338, 203, 210, 211, 212, 220, 221, 222, 223, 831, 832, 833, 834, 835, 836, 837, 838, 839, 840, 841, 842, 843, 844, 845, 846, 847, 848, 849, 850, 851, 852, 853, 854] (by decide +kernel) (by decide +kernel)
set_option maxRecDepth 20000 in
theorem gL_law_X5_as : GoodIn wsL_law (wsV RL 116 RX5 yX5_as wsX5_as) := goodIn_app (goodIn_of _ (by decide +kernel)) ggL_law_X5_as
set_option maxRecDepth 20000 in
theorem ggL_law_X4_trace : GoodIn wsL_law wsX4_trace := goodIn_r _ [802, 29, 824, 825, 826, 827, 828, 829, 830] (by decide +kernel) (by decide +kernel)
set_option maxRecDepth 20000 in
theorem gL_law_X4_trace : GoodIn wsL_law (wsV RL 117 RX4 yX4_trace wsX4_trace) := goodIn_app (goodIn_of _ (by decide +kernel)) ggL_law_X4_trace
set_option maxRecDepth 20000 in
theorem ggL_law_X5_trace : GoodIn wsL_law wsX5_trace := goodIn_r _ [806, 774, 831, 832, 833, 834, 835, 836, 837, 838, 839, 840, 841, 842, 843, 844, 845, 846, 847, 848, 849, 850, 851, 852, 853, 854] (by decide +kernel) (by decide +kernel)
set_option maxRecDepth 20000 in
theorem gL_law_X5_trace : GoodIn wsL_law (wsV RL 120 RX5 yX5_trace wsX5_trace) := goodIn_app (goodIn_of _ (by decide +kernel)) ggL_law_X5_trace
set_option maxRecDepth 20000 in
theorem ggL_law_X4_fault : GoodIn wsL_law wsX4_fault := goodIn_r _ [810, 30, 824, 825, 826, 827, 828, 829, 830] (by decide +kernel) (by decide +kernel)
set_option maxRecDepth 20000 in
theorem gL_law_X4_fault : GoodIn wsL_law (wsV RL 121 RX4 yX4_fault wsX4_fault) := goodIn_app (goodIn_of _ (by decide +kernel)) ggL_law_X4_fault
set_option maxRecDepth 20000 in
theorem ggL_law_X5_fault : GoodIn wsL_law wsX5_fault := goodIn_r _ [814, 200, 831, 832, 833, 834, 835, 836, 837, 838, 839, 840, 841, 842, 843, 844, 845, 846, 847, 848, 849, 850, 851, 852, 853, 854] (by decide +kernel) (by decide +kernel)
set_option maxRecDepth 20000 in
theorem gL_law_X5_fault : GoodIn wsL_law (wsV RL 124 RX5 yX5_fault wsX5_fault) := goodIn_app (goodIn_of _ (by decide +kernel)) ggL_law_X5_fault
set_option maxRecDepth 20000 in
theorem ggL_law_X4_many : GoodIn wsL_law wsX4_many := goodIn_r _ [818, 15, 20, 192, 193, 194, 14, 195, 35, 504, 505, 506, 507, 36, 284, 285, 286, 287, 288, 289, 290, 291, 276, 2, 277, 278, 279, 280, 281, 40, 41, 282, 283, 819, 316, 317, 318, 319, 320, 321, 508, 509, 510, 511, 512, 306, 307, 308, 309, 259, 260, 261, 39, 257, 153, 154, 155, 184, 185, 186, 19, 187, 47, 824, 825, 826, 827, 828, 829, 830, 855, 856, 857, 858, 859, 860, 861, 862, 863, 864, 865] (by decide +kernel) (by decide +kernel)
set_option maxRecDepth 20000 in
theorem gL_law_X4_many : GoodIn wsL_law (wsV RL 125 RX4 yX4_many wsX4_many) := goodIn_app (goodIn_of _ (by decide +kernel)) ggL_law_X4_many
set_option maxRecDepth 20000 in
theorem ggL_law_X5_many : GoodIn wsL_law wsX5_many := goodIn_r _ [823, 203, 205, 206, 351, 352, 353, 5, 354, 355, 356, 357, 358, 76, 77, 359, 360, 361, 374, 375, 376, 542, 543, 544, 545, 366, 367, 368, 369, 75, 362, 363, 364, 365, 831, 832, 833, 834, 835, 836, 837, 838, 839, 840, 841, 842, 843, 844, 845, 846, 847, 848, 849, 850, 851, 852, 853, 854] (by decide +kernel) (by decide +kernel)
set_option maxRecDepth 20000 in
theorem gL_law_X5_many : GoodIn wsL_law (wsV RL 128 RX5 yX5_many wsX5_many) := goodIn_app (goodIn_of _ (by decide +kernel)) ggL_law_X5_many
theorem dL_law_0 : decode cL_law 0 = .ok (.new 7, 3) := by decide +kernel
theorem dL_law_3 : decode cL_law 3 = .ok (.dup, 1) := by decide +kernel
theorem dL_law_4 : decode cL_law 4 = .ok (.invokespecial 9, 3) := by decide +kernel
theorem dL_law_7 : decode cL_law 7 = .ok (.astore_n 1, 1) := by decide +kernel
theorem dL_law_8 : decode cL_law 8 = .ok (.new 10, 3) := by decide +kernel
theorem dL_law_11 : decode cL_law 11 = .ok (.dup, 1) := by decide +kernel
theorem dL_law_12 : decode cL_law 12 = .ok (.invokespecial 12, 3) := by decide +kernel
theorem dL_law_15 : decode cL_law 15 = .ok (.astore_n 2, 1) := by decide +kernel
theorem dL_law_16 : decode cL_law 16 = .ok (.iconst 0, 1) := by decide +kernel
theorem dL_law_17 : decode cL_law 17 = .ok (.istore_n 3, 1) := by decide +kernel
theorem dL_law_18 : decode cL_law 18 = .ok (.iload_n 3, 1) := by decide +kernel
theorem dL_law_19 : decode cL_law 19 = .ok (.aload_n 0, 1) := by decide +kernel
theorem dL_law_20 : decode cL_law 20 = .ok (.arraylength, 1) := by decide +kernel
theorem dL_law_21 : decode cL_law 21 = .ok (.bipush 6, 2) := by decide +kernel
theorem dL_law_23 : decode cL_law 23 = .ok (.isub, 1) := by decide +kernel
theorem dL_law_24 : decode cL_law 24 = .ok (.if_icmp .gt 1031, 3) := by decide +kernel
theorem dL_law_27 : decode cL_law 27 = .ok (.aload_n 0, 1) := by decide +kernel
theorem dL_law_28 : decode cL_law 28 = .ok (.iload_n 3, 1) := by decide +kernel
theorem dL_law_29 : decode cL_law 29 = .ok (.iaload, 1) := by decide +kernel
theorem dL_law_30 : decode cL_law 30 = .ok (.bipush 31, 2) := by decide +kernel
theorem dL_law_32 : decode cL_law 32 = .ok (.iand, 1) := by decide +kernel
theorem dL_law_33 : decode cL_law 33 = .ok (.tableswitch 1016 0 26 #[123, 176, 209, 242, 275, 308, 341, 374, 437, 450, 483, 536, 579, 602, 625, 648, 672, 715, 738, 781, 825, 888, 911, 934, 967, 980, 993], 123) := by decide +kernel
theorem dL_law_156 : decode cL_law 156 = .ok (.aload_n 1, 1) := by decide +kernel
theorem dL_law_157 : decode cL_law 157 = .ok (.aload_n 0, 1) := by decide +kernel
theorem dL_law_158 : decode cL_law 158 = .ok (.iload_n 3, 1) := by decide +kernel
theorem dL_law_159 : decode cL_law 159 = .ok (.iconst 1, 1) := by decide +kernel
theorem dL_law_160 : decode cL_law 160 = .ok (.iadd, 1) := by decide +kernel
theorem dL_law_161 : decode cL_law 161 = .ok (.iaload, 1) := by decide +kernel
theorem dL_law_162 : decode cL_law 162 = .ok (.aload_n 0, 1) := by decide +kernel
theorem dL_law_163 : decode cL_law 163 = .ok (.iload_n 3, 1) := by decide +kernel
theorem dL_law_164 : decode cL_law 164 = .ok (.iconst 2, 1) := by decide +kernel
theorem dL_law_165 : decode cL_law 165 = .ok (.iadd, 1) := by decide +kernel
theorem dL_law_166 : decode cL_law 166 = .ok (.iaload, 1) := by decide +kernel
theorem dL_law_167 : decode cL_law 167 = .ok (.aload_n 0, 1) := by decide +kernel
theorem dL_law_168 : decode cL_law 168 = .ok (.iload_n 3, 1) := by decide +kernel
theorem dL_law_169 : decode cL_law 169 = .ok (.iconst 3, 1) := by decide +kernel
theorem dL_law_170 : decode cL_law 170 = .ok (.iadd, 1) := by decide +kernel
theorem dL_law_171 : decode cL_law 171 = .ok (.iaload, 1) := by decide +kernel
theorem dL_law_172 : decode cL_law 172 = .ok (.aload_n 0, 1) := by decide +kernel
theorem dL_law_173 : decode cL_law 173 = .ok (.iload_n 3, 1) := by decide +kernel
theorem dL_law_174 : decode cL_law 174 = .ok (.iconst 4, 1) := by decide +kernel
theorem dL_law_175 : decode cL_law 175 = .ok (.iadd, 1) := by decide +kernel
theorem dL_law_176 : decode cL_law 176 = .ok (.iaload, 1) := by decide +kernel
theorem dL_law_177 : decode cL_law 177 = .ok (.invokevirtual 13, 3) := by decide +kernel
theorem dL_law_180 : decode cL_law 180 = .ok (.aload_n 2, 1) := by decide +kernel
theorem dL_law_181 : decode cL_law 181 = .ok (.aload_n 0, 1) := by decide +kernel
theorem dL_law_182 : decode cL_law 182 = .ok (.iload_n 3, 1) := by decide +kernel
theorem dL_law_183 : decode cL_law 183 = .ok (.iconst 1, 1) := by decide +kernel
theorem dL_law_184 : decode cL_law 184 = .ok (.iadd, 1) := by decide +kernel
theorem dL_law_185 : decode cL_law 185 = .ok (.iaload, 1) := by decide +kernel
theorem dL_law_186 : decode cL_law 186 = .ok (.aload_n 0, 1) := by decide +kernel
theorem dL_law_187 : decode cL_law 187 = .ok (.iload_n 3, 1) := by decide +kernel
theorem dL_law_188 : decode cL_law 188 = .ok (.iconst 2, 1) := by decide +kernel
theorem dL_law_189 : decode cL_law 189 = .ok (.iadd, 1) := by decide +kernel
theorem dL_law_190 : decode cL_law 190 = .ok (.iaload, 1) := by decide +kernel
theorem dL_law_191 : decode cL_law 191 = .ok (.aload_n 0, 1) := by decide +kernel
theorem dL_law_192 : decode cL_law 192 = .ok (.iload_n 3, 1) := by decide +kernel
theorem dL_law_193 : decode cL_law 193 = .ok (.iconst 3, 1) := by decide +kernel
theorem dL_law_194 : decode cL_law 194 = .ok (.iadd, 1) := by decide +kernel
theorem dL_law_195 : decode cL_law 195 = .ok (.iaload, 1) := by decide +kernel
theorem dL_law_196 : decode cL_law 196 = .ok (.aload_n 0, 1) := by decide +kernel
theorem dL_law_197 : decode cL_law 197 = .ok (.iload_n 3, 1) := by decide +kernel
theorem dL_law_198 : decode cL_law 198 = .ok (.iconst 4, 1) := by decide +kernel
theorem dL_law_199 : decode cL_law 199 = .ok (.iadd, 1) := by decide +kernel
theorem dL_law_200 : decode cL_law 200 = .ok (.iaload, 1) := by decide +kernel
theorem dL_law_201 : decode cL_law 201 = .ok (.invokevirtual 17, 3) := by decide +kernel
theorem dL_law_204 : decode cL_law 204 = .ok (.if_icmp .eq 845, 3) := by decide +kernel
theorem dL_law_207 : decode cL_law 207 = .ok (.iconst 0, 1) := by decide +kernel
theorem dL_law_208 : decode cL_law 208 = .ok (.ireturn, 1) := by decide +kernel
theorem dL_law_209 : decode cL_law 209 = .ok (.aload_n 1, 1) := by decide +kernel
theorem dL_law_210 : decode cL_law 210 = .ok (.aload_n 0, 1) := by decide +kernel
theorem dL_law_211 : decode cL_law 211 = .ok (.iload_n 3, 1) := by decide +kernel
theorem dL_law_212 : decode cL_law 212 = .ok (.iconst 1, 1) := by decide +kernel
theorem dL_law_213 : decode cL_law 213 = .ok (.iadd, 1) := by decide +kernel
theorem dL_law_214 : decode cL_law 214 = .ok (.iaload, 1) := by decide +kernel
theorem dL_law_215 : decode cL_law 215 = .ok (.aload_n 0, 1) := by decide +kernel
theorem dL_law_216 : decode cL_law 216 = .ok (.iload_n 3, 1) := by decide +kernel
theorem dL_law_217 : decode cL_law 217 = .ok (.iconst 2, 1) := by decide +kernel
theorem dL_law_218 : decode cL_law 218 = .ok (.iadd, 1) := by decide +kernel
theorem dL_law_219 : decode cL_law 219 = .ok (.iaload, 1) := by decide +kernel
theorem dL_law_220 : decode cL_law 220 = .ok (.invokevirtual 18, 3) := by decide +kernel
theorem dL_law_223 : decode cL_law 223 = .ok (.aload_n 2, 1) := by decide +kernel
theorem dL_law_224 : decode cL_law 224 = .ok (.aload_n 0, 1) := by decide +kernel
theorem dL_law_225 : decode cL_law 225 = .ok (.iload_n 3, 1) := by decide +kernel
theorem dL_law_226 : decode cL_law 226 = .ok (.iconst 1, 1) := by decide +kernel
theorem dL_law_227 : decode cL_law 227 = .ok (.iadd, 1) := by decide +kernel
theorem dL_law_228 : decode cL_law 228 = .ok (.iaload, 1) := by decide +kernel
theorem dL_law_229 : decode cL_law 229 = .ok (.aload_n 0, 1) := by decide +kernel
theorem dL_law_230 : decode cL_law 230 = .ok (.iload_n 3, 1) := by decide +kernel
theorem dL_law_231 : decode cL_law 231 = .ok (.iconst 2, 1) := by decide +kernel
theorem dL_law_232 : decode cL_law 232 = .ok (.iadd, 1) := by decide +kernel
theorem dL_law_233 : decode cL_law 233 = .ok (.iaload, 1) := by decide +kernel
theorem dL_law_234 : decode cL_law 234 = .ok (.invokevirtual 22, 3) := by decide +kernel
theorem dL_law_237 : decode cL_law 237 = .ok (.if_icmp .eq 812, 3) := by decide +kernel
theorem dL_law_240 : decode cL_law 240 = .ok (.iconst 0, 1) := by decide +kernel
theorem dL_law_241 : decode cL_law 241 = .ok (.ireturn, 1) := by decide +kernel
theorem dL_law_242 : decode cL_law 242 = .ok (.aload_n 1, 1) := by decide +kernel
theorem dL_law_243 : decode cL_law 243 = .ok (.aload_n 0, 1) := by decide +kernel
theorem dL_law_244 : decode cL_law 244 = .ok (.iload_n 3, 1) := by decide +kernel
theorem dL_law_245 : decode cL_law 245 = .ok (.iconst 1, 1) := by decide +kernel
theorem dL_law_246 : decode cL_law 246 = .ok (.iadd, 1) := by decide +kernel
theorem dL_law_247 : decode cL_law 247 = .ok (.iaload, 1) := by decide +kernel
theorem dL_law_248 : decode cL_law 248 = .ok (.aload_n 0, 1) := by decide +kernel
theorem dL_law_249 : decode cL_law 249 = .ok (.iload_n 3, 1) := by decide +kernel
theorem dL_law_250 : decode cL_law 250 = .ok (.iconst 2, 1) := by decide +kernel
theorem dL_law_251 : decode cL_law 251 = .ok (.iadd, 1) := by decide +kernel
theorem dL_law_252 : decode cL_law 252 = .ok (.iaload, 1) := by decide +kernel
theorem dL_law_253 : decode cL_law 253 = .ok (.invokevirtual 23, 3) := by decide +kernel
theorem dL_law_256 : decode cL_law 256 = .ok (.aload_n 2, 1) := by decide +kernel
theorem dL_law_257 : decode cL_law 257 = .ok (.aload_n 0, 1) := by decide +kernel
theorem dL_law_258 : decode cL_law 258 = .ok (.iload_n 3, 1) := by decide +kernel
theorem dL_law_259 : decode cL_law 259 = .ok (.iconst 1, 1) := by decide +kernel
theorem dL_law_260 : decode cL_law 260 = .ok (.iadd, 1) := by decide +kernel
theorem dL_law_261 : decode cL_law 261 = .ok (.iaload, 1) := by decide +kernel
theorem dL_law_262 : decode cL_law 262 = .ok (.aload_n 0, 1) := by decide +kernel
theorem dL_law_263 : decode cL_law 263 = .ok (.iload_n 3, 1) := by decide +kernel
theorem dL_law_264 : decode cL_law 264 = .ok (.iconst 2, 1) := by decide +kernel
theorem dL_law_265 : decode cL_law 265 = .ok (.iadd, 1) := by decide +kernel
theorem dL_law_266 : decode cL_law 266 = .ok (.iaload, 1) := by decide +kernel
theorem dL_law_267 : decode cL_law 267 = .ok (.invokevirtual 26, 3) := by decide +kernel
theorem dL_law_270 : decode cL_law 270 = .ok (.if_icmp .eq 779, 3) := by decide +kernel
theorem dL_law_273 : decode cL_law 273 = .ok (.iconst 0, 1) := by decide +kernel
theorem dL_law_274 : decode cL_law 274 = .ok (.ireturn, 1) := by decide +kernel
theorem dL_law_275 : decode cL_law 275 = .ok (.aload_n 1, 1) := by decide +kernel
theorem dL_law_276 : decode cL_law 276 = .ok (.aload_n 0, 1) := by decide +kernel
theorem dL_law_277 : decode cL_law 277 = .ok (.iload_n 3, 1) := by decide +kernel
theorem dL_law_278 : decode cL_law 278 = .ok (.iconst 1, 1) := by decide +kernel
theorem dL_law_279 : decode cL_law 279 = .ok (.iadd, 1) := by decide +kernel
theorem dL_law_280 : decode cL_law 280 = .ok (.iaload, 1) := by decide +kernel
theorem dL_law_281 : decode cL_law 281 = .ok (.aload_n 0, 1) := by decide +kernel
theorem dL_law_282 : decode cL_law 282 = .ok (.iload_n 3, 1) := by decide +kernel
theorem dL_law_283 : decode cL_law 283 = .ok (.iconst 2, 1) := by decide +kernel
theorem dL_law_284 : decode cL_law 284 = .ok (.iadd, 1) := by decide +kernel
theorem dL_law_285 : decode cL_law 285 = .ok (.iaload, 1) := by decide +kernel
theorem dL_law_286 : decode cL_law 286 = .ok (.invokevirtual 27, 3) := by decide +kernel
theorem dL_law_289 : decode cL_law 289 = .ok (.aload_n 2, 1) := by decide +kernel
theorem dL_law_290 : decode cL_law 290 = .ok (.aload_n 0, 1) := by decide +kernel
theorem dL_law_291 : decode cL_law 291 = .ok (.iload_n 3, 1) := by decide +kernel
theorem dL_law_292 : decode cL_law 292 = .ok (.iconst 1, 1) := by decide +kernel
theorem dL_law_293 : decode cL_law 293 = .ok (.iadd, 1) := by decide +kernel
theorem dL_law_294 : decode cL_law 294 = .ok (.iaload, 1) := by decide +kernel
theorem dL_law_295 : decode cL_law 295 = .ok (.aload_n 0, 1) := by decide +kernel
theorem dL_law_296 : decode cL_law 296 = .ok (.iload_n 3, 1) := by decide +kernel
theorem dL_law_297 : decode cL_law 297 = .ok (.iconst 2, 1) := by decide +kernel
theorem dL_law_298 : decode cL_law 298 = .ok (.iadd, 1) := by decide +kernel
theorem dL_law_299 : decode cL_law 299 = .ok (.iaload, 1) := by decide +kernel
theorem dL_law_300 : decode cL_law 300 = .ok (.invokevirtual 30, 3) := by decide +kernel
theorem dL_law_303 : decode cL_law 303 = .ok (.if_icmp .eq 746, 3) := by decide +kernel
theorem dL_law_306 : decode cL_law 306 = .ok (.iconst 0, 1) := by decide +kernel
theorem dL_law_307 : decode cL_law 307 = .ok (.ireturn, 1) := by decide +kernel
theorem dL_law_308 : decode cL_law 308 = .ok (.aload_n 1, 1) := by decide +kernel
theorem dL_law_309 : decode cL_law 309 = .ok (.aload_n 0, 1) := by decide +kernel
theorem dL_law_310 : decode cL_law 310 = .ok (.iload_n 3, 1) := by decide +kernel
theorem dL_law_311 : decode cL_law 311 = .ok (.iconst 1, 1) := by decide +kernel
theorem dL_law_312 : decode cL_law 312 = .ok (.iadd, 1) := by decide +kernel
theorem dL_law_313 : decode cL_law 313 = .ok (.iaload, 1) := by decide +kernel
theorem dL_law_314 : decode cL_law 314 = .ok (.aload_n 0, 1) := by decide +kernel
theorem dL_law_315 : decode cL_law 315 = .ok (.iload_n 3, 1) := by decide +kernel
theorem dL_law_316 : decode cL_law 316 = .ok (.iconst 2, 1) := by decide +kernel
theorem dL_law_317 : decode cL_law 317 = .ok (.iadd, 1) := by decide +kernel
theorem dL_law_318 : decode cL_law 318 = .ok (.iaload, 1) := by decide +kernel
theorem dL_law_319 : decode cL_law 319 = .ok (.invokevirtual 31, 3) := by decide +kernel
theorem dL_law_322 : decode cL_law 322 = .ok (.aload_n 2, 1) := by decide +kernel
theorem dL_law_323 : decode cL_law 323 = .ok (.aload_n 0, 1) := by decide +kernel
theorem dL_law_324 : decode cL_law 324 = .ok (.iload_n 3, 1) := by decide +kernel
theorem dL_law_325 : decode cL_law 325 = .ok (.iconst 1, 1) := by decide +kernel
theorem dL_law_326 : decode cL_law 326 = .ok (.iadd, 1) := by decide +kernel
theorem dL_law_327 : decode cL_law 327 = .ok (.iaload, 1) := by decide +kernel
theorem dL_law_328 : decode cL_law 328 = .ok (.aload_n 0, 1) := by decide +kernel
theorem dL_law_329 : decode cL_law 329 = .ok (.iload_n 3, 1) := by decide +kernel
theorem dL_law_330 : decode cL_law 330 = .ok (.iconst 2, 1) := by decide +kernel
theorem dL_law_331 : decode cL_law 331 = .ok (.iadd, 1) := by decide +kernel
theorem dL_law_332 : decode cL_law 332 = .ok (.iaload, 1) := by decide +kernel
theorem dL_law_333 : decode cL_law 333 = .ok (.invokevirtual 34, 3) := by decide +kernel
theorem dL_law_336 : decode cL_law 336 = .ok (.if_icmp .eq 713, 3) := by decide +kernel
theorem dL_law_339 : decode cL_law 339 = .ok (.iconst 0, 1) := by decide +kernel
theorem dL_law_340 : decode cL_law 340 = .ok (.ireturn, 1) := by decide +kernel
theorem dL_law_341 : decode cL_law 341 = .ok (.aload_n 1, 1) := by decide +kernel
theorem dL_law_342 : decode cL_law 342 = .ok (.aload_n 0, 1) := by decide +kernel
theorem dL_law_343 : decode cL_law 343 = .ok (.iload_n 3, 1) := by decide +kernel
theorem dL_law_344 : decode cL_law 344 = .ok (.iconst 1, 1) := by decide +kernel
theorem dL_law_345 : decode cL_law 345 = .ok (.iadd, 1) := by decide +kernel
theorem dL_law_346 : decode cL_law 346 = .ok (.iaload, 1) := by decide +kernel
theorem dL_law_347 : decode cL_law 347 = .ok (.aload_n 0, 1) := by decide +kernel
theorem dL_law_348 : decode cL_law 348 = .ok (.iload_n 3, 1) := by decide +kernel
theorem dL_law_349 : decode cL_law 349 = .ok (.iconst 2, 1) := by decide +kernel
theorem dL_law_350 : decode cL_law 350 = .ok (.iadd, 1) := by decide +kernel
theorem dL_law_351 : decode cL_law 351 = .ok (.iaload, 1) := by decide +kernel
theorem dL_law_352 : decode cL_law 352 = .ok (.invokevirtual 35, 3) := by decide +kernel
theorem dL_law_355 : decode cL_law 355 = .ok (.aload_n 2, 1) := by decide +kernel
theorem dL_law_356 : decode cL_law 356 = .ok (.aload_n 0, 1) := by decide +kernel
theorem dL_law_357 : decode cL_law 357 = .ok (.iload_n 3, 1) := by decide +kernel
theorem dL_law_358 : decode cL_law 358 = .ok (.iconst 1, 1) := by decide +kernel
theorem dL_law_359 : decode cL_law 359 = .ok (.iadd, 1) := by decide +kernel
theorem dL_law_360 : decode cL_law 360 = .ok (.iaload, 1) := by decide +kernel
theorem dL_law_361 : decode cL_law 361 = .ok (.aload_n 0, 1) := by decide +kernel
theorem dL_law_362 : decode cL_law 362 = .ok (.iload_n 3, 1) := by decide +kernel
theorem dL_law_363 : decode cL_law 363 = .ok (.iconst 2, 1) := by decide +kernel
theorem dL_law_364 : decode cL_law 364 = .ok (.iadd, 1) := by decide +kernel
theorem dL_law_365 : decode cL_law 365 = .ok (.iaload, 1) := by decide +kernel
theorem dL_law_366 : decode cL_law 366 = .ok (.invokevirtual 38, 3) := by decide +kernel
theorem dL_law_369 : decode cL_law 369 = .ok (.if_icmp .eq 680, 3) := by decide +kernel
theorem dL_law_372 : decode cL_law 372 = .ok (.iconst 0, 1) := by decide +kernel
theorem dL_law_373 : decode cL_law 373 = .ok (.ireturn, 1) := by decide +kernel
theorem dL_law_374 : decode cL_law 374 = .ok (.aload_n 1, 1) := by decide +kernel
theorem dL_law_375 : decode cL_law 375 = .ok (.aload_n 0, 1) := by decide +kernel
theorem dL_law_376 : decode cL_law 376 = .ok (.iload_n 3, 1) := by decide +kernel
theorem dL_law_377 : decode cL_law 377 = .ok (.iconst 1, 1) := by decide +kernel
theorem dL_law_378 : decode cL_law 378 = .ok (.iadd, 1) := by decide +kernel
theorem dL_law_379 : decode cL_law 379 = .ok (.iaload, 1) := by decide +kernel
theorem dL_law_380 : decode cL_law 380 = .ok (.aload_n 0, 1) := by decide +kernel
theorem dL_law_381 : decode cL_law 381 = .ok (.iload_n 3, 1) := by decide +kernel
theorem dL_law_382 : decode cL_law 382 = .ok (.iconst 2, 1) := by decide +kernel
theorem dL_law_383 : decode cL_law 383 = .ok (.iadd, 1) := by decide +kernel
theorem dL_law_384 : decode cL_law 384 = .ok (.iaload, 1) := by decide +kernel
theorem dL_law_385 : decode cL_law 385 = .ok (.invokevirtual 39, 3) := by decide +kernel
theorem dL_law_388 : decode cL_law 388 = .ok (.aload_n 2, 1) := by decide +kernel
theorem dL_law_389 : decode cL_law 389 = .ok (.aload_n 0, 1) := by decide +kernel
theorem dL_law_390 : decode cL_law 390 = .ok (.iload_n 3, 1) := by decide +kernel
theorem dL_law_391 : decode cL_law 391 = .ok (.iconst 1, 1) := by decide +kernel
theorem dL_law_392 : decode cL_law 392 = .ok (.iadd, 1) := by decide +kernel
theorem dL_law_393 : decode cL_law 393 = .ok (.iaload, 1) := by decide +kernel
theorem dL_law_394 : decode cL_law 394 = .ok (.aload_n 0, 1) := by decide +kernel
theorem dL_law_395 : decode cL_law 395 = .ok (.iload_n 3, 1) := by decide +kernel
theorem dL_law_396 : decode cL_law 396 = .ok (.iconst 2, 1) := by decide +kernel
theorem dL_law_397 : decode cL_law 397 = .ok (.iadd, 1) := by decide +kernel
theorem dL_law_398 : decode cL_law 398 = .ok (.iaload, 1) := by decide +kernel
theorem dL_law_399 : decode cL_law 399 = .ok (.invokevirtual 42, 3) := by decide +kernel
theorem dL_law_402 : decode cL_law 402 = .ok (.if_icmp .eq 647, 3) := by decide +kernel
theorem dL_law_405 : decode cL_law 405 = .ok (.iconst 0, 1) := by decide +kernel
theorem dL_law_406 : decode cL_law 406 = .ok (.ireturn, 1) := by decide +kernel
theorem dL_law_407 : decode cL_law 407 = .ok (.aload_n 1, 1) := by decide +kernel
theorem dL_law_408 : decode cL_law 408 = .ok (.aload_n 0, 1) := by decide +kernel
theorem dL_law_409 : decode cL_law 409 = .ok (.iload_n 3, 1) := by decide +kernel
theorem dL_law_410 : decode cL_law 410 = .ok (.iconst 1, 1) := by decide +kernel
theorem dL_law_411 : decode cL_law 411 = .ok (.iadd, 1) := by decide +kernel
theorem dL_law_412 : decode cL_law 412 = .ok (.iaload, 1) := by decide +kernel
theorem dL_law_413 : decode cL_law 413 = .ok (.aload_n 0, 1) := by decide +kernel
theorem dL_law_414 : decode cL_law 414 = .ok (.iload_n 3, 1) := by decide +kernel
theorem dL_law_415 : decode cL_law 415 = .ok (.iconst 2, 1) := by decide +kernel
theorem dL_law_416 : decode cL_law 416 = .ok (.iadd, 1) := by decide +kernel
theorem dL_law_417 : decode cL_law 417 = .ok (.iaload, 1) := by decide +kernel
theorem dL_law_418 : decode cL_law 418 = .ok (.aload_n 0, 1) := by decide +kernel
theorem dL_law_419 : decode cL_law 419 = .ok (.iload_n 3, 1) := by decide +kernel
theorem dL_law_420 : decode cL_law 420 = .ok (.iconst 3, 1) := by decide +kernel
theorem dL_law_421 : decode cL_law 421 = .ok (.iadd, 1) := by decide +kernel
theorem dL_law_422 : decode cL_law 422 = .ok (.iaload, 1) := by decide +kernel
theorem dL_law_423 : decode cL_law 423 = .ok (.aload_n 0, 1) := by decide +kernel
theorem dL_law_424 : decode cL_law 424 = .ok (.iload_n 3, 1) := by decide +kernel
theorem dL_law_425 : decode cL_law 425 = .ok (.iconst 4, 1) := by decide +kernel
theorem dL_law_426 : decode cL_law 426 = .ok (.iadd, 1) := by decide +kernel
theorem dL_law_427 : decode cL_law 427 = .ok (.iaload, 1) := by decide +kernel
theorem dL_law_428 : decode cL_law 428 = .ok (.aload_n 0, 1) := by decide +kernel
theorem dL_law_429 : decode cL_law 429 = .ok (.iload_n 3, 1) := by decide +kernel
theorem dL_law_430 : decode cL_law 430 = .ok (.iconst 5, 1) := by decide +kernel
theorem dL_law_431 : decode cL_law 431 = .ok (.iadd, 1) := by decide +kernel
theorem dL_law_432 : decode cL_law 432 = .ok (.iaload, 1) := by decide +kernel
theorem dL_law_433 : decode cL_law 433 = .ok (.invokevirtual 43, 3) := by decide +kernel
theorem dL_law_436 : decode cL_law 436 = .ok (.aload_n 2, 1) := by decide +kernel
theorem dL_law_437 : decode cL_law 437 = .ok (.aload_n 0, 1) := by decide +kernel
theorem dL_law_438 : decode cL_law 438 = .ok (.iload_n 3, 1) := by decide +kernel
theorem dL_law_439 : decode cL_law 439 = .ok (.iconst 1, 1) := by decide +kernel
theorem dL_law_440 : decode cL_law 440 = .ok (.iadd, 1) := by decide +kernel
theorem dL_law_441 : decode cL_law 441 = .ok (.iaload, 1) := by decide +kernel
theorem dL_law_442 : decode cL_law 442 = .ok (.aload_n 0, 1) := by decide +kernel
theorem dL_law_443 : decode cL_law 443 = .ok (.iload_n 3, 1) := by decide +kernel
theorem dL_law_444 : decode cL_law 444 = .ok (.iconst 2, 1) := by decide +kernel
theorem dL_law_445 : decode cL_law 445 = .ok (.iadd, 1) := by decide +kernel
theorem dL_law_446 : decode cL_law 446 = .ok (.iaload, 1) := by decide +kernel
theorem dL_law_447 : decode cL_law 447 = .ok (.aload_n 0, 1) := by decide +kernel
theorem dL_law_448 : decode cL_law 448 = .ok (.iload_n 3, 1) := by decide +kernel
theorem dL_law_449 : decode cL_law 449 = .ok (.iconst 3, 1) := by decide +kernel
theorem dL_law_450 : decode cL_law 450 = .ok (.iadd, 1) := by decide +kernel
theorem dL_law_451 : decode cL_law 451 = .ok (.iaload, 1) := by decide +kernel
theorem dL_law_452 : decode cL_law 452 = .ok (.aload_n 0, 1) := by decide +kernel
theorem dL_law_453 : decode cL_law 453 = .ok (.iload_n 3, 1) := by decide +kernel
theorem dL_law_454 : decode cL_law 454 = .ok (.iconst 4, 1) := by decide +kernel
theorem dL_law_455 : decode cL_law 455 = .ok (.iadd, 1) := by decide +kernel
theorem dL_law_456 : decode cL_law 456 = .ok (.iaload, 1) := by decide +kernel
theorem dL_law_457 : decode cL_law 457 = .ok (.aload_n 0, 1) := by decide +kernel
theorem dL_law_458 : decode cL_law 458 = .ok (.iload_n 3, 1) := by decide +kernel
theorem dL_law_459 : decode cL_law 459 = .ok (.iconst 5, 1) := by decide +kernel
theorem dL_law_460 : decode cL_law 460 = .ok (.iadd, 1) := by decide +kernel
theorem dL_law_461 : decode cL_law 461 = .ok (.iaload, 1) := by decide +kernel
theorem dL_law_462 : decode cL_law 462 = .ok (.invokevirtual 47, 3) := by decide +kernel
theorem dL_law_465 : decode cL_law 465 = .ok (.if_icmp .eq 584, 3) := by decide +kernel
theorem dL_law_468 : decode cL_law 468 = .ok (.iconst 0, 1) := by decide +kernel
theorem dL_law_469 : decode cL_law 469 = .ok (.ireturn, 1) := by decide +kernel
theorem dL_law_470 : decode cL_law 470 = .ok (.aload_n 1, 1) := by decide +kernel
theorem dL_law_471 : decode cL_law 471 = .ok (.invokevirtual 48, 3) := by decide +kernel
theorem dL_law_474 : decode cL_law 474 = .ok (.aload_n 2, 1) := by decide +kernel
theorem dL_law_475 : decode cL_law 475 = .ok (.invokevirtual 52, 3) := by decide +kernel
theorem dL_law_478 : decode cL_law 478 = .ok (.if_icmp .eq 571, 3) := by decide +kernel
theorem dL_law_481 : decode cL_law 481 = .ok (.iconst 0, 1) := by decide +kernel
theorem dL_law_482 : decode cL_law 482 = .ok (.ireturn, 1) := by decide +kernel
theorem dL_law_483 : decode cL_law 483 = .ok (.aload_n 1, 1) := by decide +kernel
theorem dL_law_484 : decode cL_law 484 = .ok (.aload_n 0, 1) := by decide +kernel
theorem dL_law_485 : decode cL_law 485 = .ok (.iload_n 3, 1) := by decide +kernel
theorem dL_law_486 : decode cL_law 486 = .ok (.iconst 1, 1) := by decide +kernel
theorem dL_law_487 : decode cL_law 487 = .ok (.iadd, 1) := by decide +kernel
theorem dL_law_488 : decode cL_law 488 = .ok (.iaload, 1) := by decide +kernel
theorem dL_law_489 : decode cL_law 489 = .ok (.aload_n 0, 1) := by decide +kernel
theorem dL_law_490 : decode cL_law 490 = .ok (.iload_n 3, 1) := by decide +kernel
theorem dL_law_491 : decode cL_law 491 = .ok (.iconst 2, 1) := by decide +kernel
theorem dL_law_492 : decode cL_law 492 = .ok (.iadd, 1) := by decide +kernel
theorem dL_law_493 : decode cL_law 493 = .ok (.iaload, 1) := by decide +kernel
theorem dL_law_494 : decode cL_law 494 = .ok (.invokevirtual 53, 3) := by decide +kernel
theorem dL_law_497 : decode cL_law 497 = .ok (.aload_n 2, 1) := by decide +kernel
theorem dL_law_498 : decode cL_law 498 = .ok (.aload_n 0, 1) := by decide +kernel
theorem dL_law_499 : decode cL_law 499 = .ok (.iload_n 3, 1) := by decide +kernel
theorem dL_law_500 : decode cL_law 500 = .ok (.iconst 1, 1) := by decide +kernel
theorem dL_law_501 : decode cL_law 501 = .ok (.iadd, 1) := by decide +kernel
theorem dL_law_502 : decode cL_law 502 = .ok (.iaload, 1) := by decide +kernel
theorem dL_law_503 : decode cL_law 503 = .ok (.aload_n 0, 1) := by decide +kernel
theorem dL_law_504 : decode cL_law 504 = .ok (.iload_n 3, 1) := by decide +kernel
theorem dL_law_505 : decode cL_law 505 = .ok (.iconst 2, 1) := by decide +kernel
theorem dL_law_506 : decode cL_law 506 = .ok (.iadd, 1) := by decide +kernel
theorem dL_law_507 : decode cL_law 507 = .ok (.iaload, 1) := by decide +kernel
theorem dL_law_508 : decode cL_law 508 = .ok (.invokevirtual 56, 3) := by decide +kernel
theorem dL_law_511 : decode cL_law 511 = .ok (.if_icmp .eq 538, 3) := by decide +kernel
theorem dL_law_514 : decode cL_law 514 = .ok (.iconst 0, 1) := by decide +kernel
theorem dL_law_515 : decode cL_law 515 = .ok (.ireturn, 1) := by decide +kernel
theorem dL_law_516 : decode cL_law 516 = .ok (.aload_n 1, 1) := by decide +kernel
theorem dL_law_517 : decode cL_law 517 = .ok (.aload_n 0, 1) := by decide +kernel
theorem dL_law_518 : decode cL_law 518 = .ok (.iload_n 3, 1) := by decide +kernel
theorem dL_law_519 : decode cL_law 519 = .ok (.iconst 1, 1) := by decide +kernel
theorem dL_law_520 : decode cL_law 520 = .ok (.iadd, 1) := by decide +kernel
theorem dL_law_521 : decode cL_law 521 = .ok (.iaload, 1) := by decide +kernel
theorem dL_law_522 : decode cL_law 522 = .ok (.aload_n 0, 1) := by decide +kernel
theorem dL_law_523 : decode cL_law 523 = .ok (.iload_n 3, 1) := by decide +kernel
theorem dL_law_524 : decode cL_law 524 = .ok (.iconst 2, 1) := by decide +kernel
theorem dL_law_525 : decode cL_law 525 = .ok (.iadd, 1) := by decide +kernel
theorem dL_law_526 : decode cL_law 526 = .ok (.iaload, 1) := by decide +kernel
theorem dL_law_527 : decode cL_law 527 = .ok (.aload_n 0, 1) := by decide +kernel
theorem dL_law_528 : decode cL_law 528 = .ok (.iload_n 3, 1) := by decide +kernel
theorem dL_law_529 : decode cL_law 529 = .ok (.iconst 3, 1) := by decide +kernel
theorem dL_law_530 : decode cL_law 530 = .ok (.iadd, 1) := by decide +kernel
theorem dL_law_531 : decode cL_law 531 = .ok (.iaload, 1) := by decide +kernel
theorem dL_law_532 : decode cL_law 532 = .ok (.aload_n 0, 1) := by decide +kernel
theorem dL_law_533 : decode cL_law 533 = .ok (.iload_n 3, 1) := by decide +kernel
theorem dL_law_534 : decode cL_law 534 = .ok (.iconst 4, 1) := by decide +kernel
theorem dL_law_535 : decode cL_law 535 = .ok (.iadd, 1) := by decide +kernel
theorem dL_law_536 : decode cL_law 536 = .ok (.iaload, 1) := by decide +kernel
theorem dL_law_537 : decode cL_law 537 = .ok (.invokevirtual 57, 3) := by decide +kernel
theorem dL_law_540 : decode cL_law 540 = .ok (.aload_n 2, 1) := by decide +kernel
theorem dL_law_541 : decode cL_law 541 = .ok (.aload_n 0, 1) := by decide +kernel
theorem dL_law_542 : decode cL_law 542 = .ok (.iload_n 3, 1) := by decide +kernel
theorem dL_law_543 : decode cL_law 543 = .ok (.iconst 1, 1) := by decide +kernel
theorem dL_law_544 : decode cL_law 544 = .ok (.iadd, 1) := by decide +kernel
theorem dL_law_545 : decode cL_law 545 = .ok (.iaload, 1) := by decide +kernel
theorem dL_law_546 : decode cL_law 546 = .ok (.aload_n 0, 1) := by decide +kernel
theorem dL_law_547 : decode cL_law 547 = .ok (.iload_n 3, 1) := by decide +kernel
theorem dL_law_548 : decode cL_law 548 = .ok (.iconst 2, 1) := by decide +kernel
theorem dL_law_549 : decode cL_law 549 = .ok (.iadd, 1) := by decide +kernel
theorem dL_law_550 : decode cL_law 550 = .ok (.iaload, 1) := by decide +kernel
theorem dL_law_551 : decode cL_law 551 = .ok (.aload_n 0, 1) := by decide +kernel
theorem dL_law_552 : decode cL_law 552 = .ok (.iload_n 3, 1) := by decide +kernel
theorem dL_law_553 : decode cL_law 553 = .ok (.iconst 3, 1) := by decide +kernel
theorem dL_law_554 : decode cL_law 554 = .ok (.iadd, 1) := by decide +kernel
theorem dL_law_555 : decode cL_law 555 = .ok (.iaload, 1) := by decide +kernel
theorem dL_law_556 : decode cL_law 556 = .ok (.aload_n 0, 1) := by decide +kernel
theorem dL_law_557 : decode cL_law 557 = .ok (.iload_n 3, 1) := by decide +kernel
theorem dL_law_558 : decode cL_law 558 = .ok (.iconst 4, 1) := by decide +kernel
theorem dL_law_559 : decode cL_law 559 = .ok (.iadd, 1) := by decide +kernel
theorem dL_law_560 : decode cL_law 560 = .ok (.iaload, 1) := by decide +kernel
theorem dL_law_561 : decode cL_law 561 = .ok (.invokevirtual 60, 3) := by decide +kernel
theorem dL_law_564 : decode cL_law 564 = .ok (.if_icmp .eq 485, 3) := by decide +kernel
theorem dL_law_567 : decode cL_law 567 = .ok (.iconst 0, 1) := by decide +kernel
theorem dL_law_568 : decode cL_law 568 = .ok (.ireturn, 1) := by decide +kernel
theorem dL_law_569 : decode cL_law 569 = .ok (.aload_n 1, 1) := by decide +kernel
theorem dL_law_570 : decode cL_law 570 = .ok (.aload_n 0, 1) := by decide +kernel
theorem dL_law_571 : decode cL_law 571 = .ok (.iload_n 3, 1) := by decide +kernel
theorem dL_law_572 : decode cL_law 572 = .ok (.iconst 1, 1) := by decide +kernel
theorem dL_law_573 : decode cL_law 573 = .ok (.iadd, 1) := by decide +kernel
theorem dL_law_574 : decode cL_law 574 = .ok (.iaload, 1) := by decide +kernel
theorem dL_law_575 : decode cL_law 575 = .ok (.aload_n 0, 1) := by decide +kernel
theorem dL_law_576 : decode cL_law 576 = .ok (.iload_n 3, 1) := by decide +kernel
theorem dL_law_577 : decode cL_law 577 = .ok (.iconst 2, 1) := by decide +kernel
theorem dL_law_578 : decode cL_law 578 = .ok (.iadd, 1) := by decide +kernel
theorem dL_law_579 : decode cL_law 579 = .ok (.iaload, 1) := by decide +kernel
theorem dL_law_580 : decode cL_law 580 = .ok (.aload_n 0, 1) := by decide +kernel
theorem dL_law_581 : decode cL_law 581 = .ok (.iload_n 3, 1) := by decide +kernel
theorem dL_law_582 : decode cL_law 582 = .ok (.iconst 3, 1) := by decide +kernel
theorem dL_law_583 : decode cL_law 583 = .ok (.iadd, 1) := by decide +kernel
theorem dL_law_584 : decode cL_law 584 = .ok (.iaload, 1) := by decide +kernel
theorem dL_law_585 : decode cL_law 585 = .ok (.invokevirtual 61, 3) := by decide +kernel
theorem dL_law_588 : decode cL_law 588 = .ok (.aload_n 2, 1) := by decide +kernel
theorem dL_law_589 : decode cL_law 589 = .ok (.aload_n 0, 1) := by decide +kernel
theorem dL_law_590 : decode cL_law 590 = .ok (.iload_n 3, 1) := by decide +kernel
theorem dL_law_591 : decode cL_law 591 = .ok (.iconst 1, 1) := by decide +kernel
theorem dL_law_592 : decode cL_law 592 = .ok (.iadd, 1) := by decide +kernel
theorem dL_law_593 : decode cL_law 593 = .ok (.iaload, 1) := by decide +kernel
theorem dL_law_594 : decode cL_law 594 = .ok (.aload_n 0, 1) := by decide +kernel
theorem dL_law_595 : decode cL_law 595 = .ok (.iload_n 3, 1) := by decide +kernel
theorem dL_law_596 : decode cL_law 596 = .ok (.iconst 2, 1) := by decide +kernel
theorem dL_law_597 : decode cL_law 597 = .ok (.iadd, 1) := by decide +kernel
theorem dL_law_598 : decode cL_law 598 = .ok (.iaload, 1) := by decide +kernel
theorem dL_law_599 : decode cL_law 599 = .ok (.aload_n 0, 1) := by decide +kernel
theorem dL_law_600 : decode cL_law 600 = .ok (.iload_n 3, 1) := by decide +kernel
theorem dL_law_601 : decode cL_law 601 = .ok (.iconst 3, 1) := by decide +kernel
theorem dL_law_602 : decode cL_law 602 = .ok (.iadd, 1) := by decide +kernel
theorem dL_law_603 : decode cL_law 603 = .ok (.iaload, 1) := by decide +kernel
theorem dL_law_604 : decode cL_law 604 = .ok (.invokevirtual 65, 3) := by decide +kernel
theorem dL_law_607 : decode cL_law 607 = .ok (.if_icmp .eq 442, 3) := by decide +kernel
theorem dL_law_610 : decode cL_law 610 = .ok (.iconst 0, 1) := by decide +kernel
theorem dL_law_611 : decode cL_law 611 = .ok (.ireturn, 1) := by decide +kernel
theorem dL_law_612 : decode cL_law 612 = .ok (.aload_n 1, 1) := by decide +kernel
theorem dL_law_613 : decode cL_law 613 = .ok (.aload_n 0, 1) := by decide +kernel
theorem dL_law_614 : decode cL_law 614 = .ok (.iload_n 3, 1) := by decide +kernel
theorem dL_law_615 : decode cL_law 615 = .ok (.iconst 1, 1) := by decide +kernel
theorem dL_law_616 : decode cL_law 616 = .ok (.iadd, 1) := by decide +kernel
theorem dL_law_617 : decode cL_law 617 = .ok (.iaload, 1) := by decide +kernel
theorem dL_law_618 : decode cL_law 618 = .ok (.invokevirtual 66, 3) := by decide +kernel
theorem dL_law_621 : decode cL_law 621 = .ok (.aload_n 2, 1) := by decide +kernel
theorem dL_law_622 : decode cL_law 622 = .ok (.aload_n 0, 1) := by decide +kernel
theorem dL_law_623 : decode cL_law 623 = .ok (.iload_n 3, 1) := by decide +kernel
theorem dL_law_624 : decode cL_law 624 = .ok (.iconst 1, 1) := by decide +kernel
theorem dL_law_625 : decode cL_law 625 = .ok (.iadd, 1) := by decide +kernel
theorem dL_law_626 : decode cL_law 626 = .ok (.iaload, 1) := by decide +kernel
theorem dL_law_627 : decode cL_law 627 = .ok (.invokevirtual 70, 3) := by decide +kernel
theorem dL_law_630 : decode cL_law 630 = .ok (.if_icmp .eq 419, 3) := by decide +kernel
theorem dL_law_633 : decode cL_law 633 = .ok (.iconst 0, 1) := by decide +kernel
theorem dL_law_634 : decode cL_law 634 = .ok (.ireturn, 1) := by decide +kernel
theorem dL_law_635 : decode cL_law 635 = .ok (.aload_n 1, 1) := by decide +kernel
theorem dL_law_636 : decode cL_law 636 = .ok (.aload_n 0, 1) := by decide +kernel
theorem dL_law_637 : decode cL_law 637 = .ok (.iload_n 3, 1) := by decide +kernel
theorem dL_law_638 : decode cL_law 638 = .ok (.iconst 1, 1) := by decide +kernel
theorem dL_law_639 : decode cL_law 639 = .ok (.iadd, 1) := by decide +kernel
theorem dL_law_640 : decode cL_law 640 = .ok (.iaload, 1) := by decide +kernel
theorem dL_law_641 : decode cL_law 641 = .ok (.invokevirtual 71, 3) := by decide +kernel
theorem dL_law_644 : decode cL_law 644 = .ok (.aload_n 2, 1) := by decide +kernel
theorem dL_law_645 : decode cL_law 645 = .ok (.aload_n 0, 1) := by decide +kernel
theorem dL_law_646 : decode cL_law 646 = .ok (.iload_n 3, 1) := by decide +kernel
theorem dL_law_647 : decode cL_law 647 = .ok (.iconst 1, 1) := by decide +kernel
theorem dL_law_648 : decode cL_law 648 = .ok (.iadd, 1) := by decide +kernel
theorem dL_law_649 : decode cL_law 649 = .ok (.iaload, 1) := by decide +kernel
theorem dL_law_650 : decode cL_law 650 = .ok (.invokevirtual 74, 3) := by decide +kernel
theorem dL_law_653 : decode cL_law 653 = .ok (.if_icmp .eq 396, 3) := by decide +kernel
theorem dL_law_656 : decode cL_law 656 = .ok (.iconst 0, 1) := by decide +kernel
theorem dL_law_657 : decode cL_law 657 = .ok (.ireturn, 1) := by decide +kernel
theorem dL_law_658 : decode cL_law 658 = .ok (.aload_n 1, 1) := by decide +kernel
theorem dL_law_659 : decode cL_law 659 = .ok (.aload_n 0, 1) := by decide +kernel
theorem dL_law_660 : decode cL_law 660 = .ok (.iload_n 3, 1) := by decide +kernel
theorem dL_law_661 : decode cL_law 661 = .ok (.iconst 1, 1) := by decide +kernel
theorem dL_law_662 : decode cL_law 662 = .ok (.iadd, 1) := by decide +kernel
theorem dL_law_663 : decode cL_law 663 = .ok (.iaload, 1) := by decide +kernel
theorem dL_law_664 : decode cL_law 664 = .ok (.invokevirtual 75, 3) := by decide +kernel
theorem dL_law_667 : decode cL_law 667 = .ok (.aload_n 2, 1) := by decide +kernel
theorem dL_law_668 : decode cL_law 668 = .ok (.aload_n 0, 1) := by decide +kernel
theorem dL_law_669 : decode cL_law 669 = .ok (.iload_n 3, 1) := by decide +kernel
theorem dL_law_670 : decode cL_law 670 = .ok (.iconst 1, 1) := by decide +kernel
theorem dL_law_671 : decode cL_law 671 = .ok (.iadd, 1) := by decide +kernel
theorem dL_law_672 : decode cL_law 672 = .ok (.iaload, 1) := by decide +kernel
theorem dL_law_673 : decode cL_law 673 = .ok (.invokevirtual 78, 3) := by decide +kernel
theorem dL_law_676 : decode cL_law 676 = .ok (.if_icmp .eq 373, 3) := by decide +kernel
theorem dL_law_679 : decode cL_law 679 = .ok (.iconst 0, 1) := by decide +kernel
theorem dL_law_680 : decode cL_law 680 = .ok (.ireturn, 1) := by decide +kernel
theorem dL_law_681 : decode cL_law 681 = .ok (.aload_n 1, 1) := by decide +kernel
theorem dL_law_682 : decode cL_law 682 = .ok (.aload_n 0, 1) := by decide +kernel
theorem dL_law_683 : decode cL_law 683 = .ok (.iload_n 3, 1) := by decide +kernel
theorem dL_law_684 : decode cL_law 684 = .ok (.iconst 1, 1) := by decide +kernel
theorem dL_law_685 : decode cL_law 685 = .ok (.iadd, 1) := by decide +kernel
theorem dL_law_686 : decode cL_law 686 = .ok (.iaload, 1) := by decide +kernel
theorem dL_law_687 : decode cL_law 687 = .ok (.invokevirtual 79, 3) := by decide +kernel
theorem dL_law_690 : decode cL_law 690 = .ok (.aload_n 2, 1) := by decide +kernel
theorem dL_law_691 : decode cL_law 691 = .ok (.aload_n 0, 1) := by decide +kernel
theorem dL_law_692 : decode cL_law 692 = .ok (.iload_n 3, 1) := by decide +kernel
theorem dL_law_693 : decode cL_law 693 = .ok (.iconst 1, 1) := by decide +kernel
theorem dL_law_694 : decode cL_law 694 = .ok (.iadd, 1) := by decide +kernel
theorem dL_law_695 : decode cL_law 695 = .ok (.iaload, 1) := by decide +kernel
theorem dL_law_696 : decode cL_law 696 = .ok (.invokevirtual 83, 3) := by decide +kernel
theorem dL_law_699 : decode cL_law 699 = .ok (.lcmp, 1) := by decide +kernel
theorem dL_law_700 : decode cL_law 700 = .ok (.ifCond .eq 349, 3) := by decide +kernel
theorem dL_law_703 : decode cL_law 703 = .ok (.iconst 0, 1) := by decide +kernel
theorem dL_law_704 : decode cL_law 704 = .ok (.ireturn, 1) := by decide +kernel
theorem dL_law_705 : decode cL_law 705 = .ok (.aload_n 1, 1) := by decide +kernel
theorem dL_law_706 : decode cL_law 706 = .ok (.aload_n 0, 1) := by decide +kernel
theorem dL_law_707 : decode cL_law 707 = .ok (.iload_n 3, 1) := by decide +kernel
theorem dL_law_708 : decode cL_law 708 = .ok (.iconst 1, 1) := by decide +kernel
theorem dL_law_709 : decode cL_law 709 = .ok (.iadd, 1) := by decide +kernel
theorem dL_law_710 : decode cL_law 710 = .ok (.iaload, 1) := by decide +kernel
theorem dL_law_711 : decode cL_law 711 = .ok (.aload_n 0, 1) := by decide +kernel
theorem dL_law_712 : decode cL_law 712 = .ok (.iload_n 3, 1) := by decide +kernel
theorem dL_law_713 : decode cL_law 713 = .ok (.iconst 2, 1) := by decide +kernel
theorem dL_law_714 : decode cL_law 714 = .ok (.iadd, 1) := by decide +kernel
theorem dL_law_715 : decode cL_law 715 = .ok (.iaload, 1) := by decide +kernel
theorem dL_law_716 : decode cL_law 716 = .ok (.aload_n 0, 1) := by decide +kernel
theorem dL_law_717 : decode cL_law 717 = .ok (.iload_n 3, 1) := by decide +kernel
theorem dL_law_718 : decode cL_law 718 = .ok (.iconst 3, 1) := by decide +kernel
theorem dL_law_719 : decode cL_law 719 = .ok (.iadd, 1) := by decide +kernel
theorem dL_law_720 : decode cL_law 720 = .ok (.iaload, 1) := by decide +kernel
theorem dL_law_721 : decode cL_law 721 = .ok (.invokevirtual 84, 3) := by decide +kernel
theorem dL_law_724 : decode cL_law 724 = .ok (.aload_n 2, 1) := by decide +kernel
theorem dL_law_725 : decode cL_law 725 = .ok (.aload_n 0, 1) := by decide +kernel
theorem dL_law_726 : decode cL_law 726 = .ok (.iload_n 3, 1) := by decide +kernel
theorem dL_law_727 : decode cL_law 727 = .ok (.iconst 1, 1) := by decide +kernel
theorem dL_law_728 : decode cL_law 728 = .ok (.iadd, 1) := by decide +kernel
theorem dL_law_729 : decode cL_law 729 = .ok (.iaload, 1) := by decide +kernel
theorem dL_law_730 : decode cL_law 730 = .ok (.aload_n 0, 1) := by decide +kernel
theorem dL_law_731 : decode cL_law 731 = .ok (.iload_n 3, 1) := by decide +kernel
theorem dL_law_732 : decode cL_law 732 = .ok (.iconst 2, 1) := by decide +kernel
theorem dL_law_733 : decode cL_law 733 = .ok (.iadd, 1) := by decide +kernel
theorem dL_law_734 : decode cL_law 734 = .ok (.iaload, 1) := by decide +kernel
theorem dL_law_735 : decode cL_law 735 = .ok (.aload_n 0, 1) := by decide +kernel
theorem dL_law_736 : decode cL_law 736 = .ok (.iload_n 3, 1) := by decide +kernel
theorem dL_law_737 : decode cL_law 737 = .ok (.iconst 3, 1) := by decide +kernel
theorem dL_law_738 : decode cL_law 738 = .ok (.iadd, 1) := by decide +kernel
theorem dL_law_739 : decode cL_law 739 = .ok (.iaload, 1) := by decide +kernel
theorem dL_law_740 : decode cL_law 740 = .ok (.invokevirtual 87, 3) := by decide +kernel
theorem dL_law_743 : decode cL_law 743 = .ok (.if_icmp .eq 306, 3) := by decide +kernel
theorem dL_law_746 : decode cL_law 746 = .ok (.iconst 0, 1) := by decide +kernel
theorem dL_law_747 : decode cL_law 747 = .ok (.ireturn, 1) := by decide +kernel
theorem dL_law_748 : decode cL_law 748 = .ok (.aload_n 1, 1) := by decide +kernel
theorem dL_law_749 : decode cL_law 749 = .ok (.aload_n 0, 1) := by decide +kernel
theorem dL_law_750 : decode cL_law 750 = .ok (.iload_n 3, 1) := by decide +kernel
theorem dL_law_751 : decode cL_law 751 = .ok (.iconst 1, 1) := by decide +kernel
theorem dL_law_752 : decode cL_law 752 = .ok (.iadd, 1) := by decide +kernel
theorem dL_law_753 : decode cL_law 753 = .ok (.iaload, 1) := by decide +kernel
theorem dL_law_754 : decode cL_law 754 = .ok (.invokevirtual 88, 3) := by decide +kernel
theorem dL_law_757 : decode cL_law 757 = .ok (.aload_n 2, 1) := by decide +kernel
theorem dL_law_758 : decode cL_law 758 = .ok (.aload_n 0, 1) := by decide +kernel
theorem dL_law_759 : decode cL_law 759 = .ok (.iload_n 3, 1) := by decide +kernel
theorem dL_law_760 : decode cL_law 760 = .ok (.iconst 1, 1) := by decide +kernel
theorem dL_law_761 : decode cL_law 761 = .ok (.iadd, 1) := by decide +kernel
theorem dL_law_762 : decode cL_law 762 = .ok (.iaload, 1) := by decide +kernel
theorem dL_law_763 : decode cL_law 763 = .ok (.invokevirtual 91, 3) := by decide +kernel
theorem dL_law_766 : decode cL_law 766 = .ok (.if_icmp .eq 283, 3) := by decide +kernel
theorem dL_law_769 : decode cL_law 769 = .ok (.iconst 0, 1) := by decide +kernel
theorem dL_law_770 : decode cL_law 770 = .ok (.ireturn, 1) := by decide +kernel
theorem dL_law_771 : decode cL_law 771 = .ok (.aload_n 1, 1) := by decide +kernel
theorem dL_law_772 : decode cL_law 772 = .ok (.aload_n 0, 1) := by decide +kernel
theorem dL_law_773 : decode cL_law 773 = .ok (.iload_n 3, 1) := by decide +kernel
theorem dL_law_774 : decode cL_law 774 = .ok (.iconst 1, 1) := by decide +kernel
theorem dL_law_775 : decode cL_law 775 = .ok (.iadd, 1) := by decide +kernel
theorem dL_law_776 : decode cL_law 776 = .ok (.iaload, 1) := by decide +kernel
theorem dL_law_777 : decode cL_law 777 = .ok (.aload_n 0, 1) := by decide +kernel
theorem dL_law_778 : decode cL_law 778 = .ok (.iload_n 3, 1) := by decide +kernel
theorem dL_law_779 : decode cL_law 779 = .ok (.iconst 2, 1) := by decide +kernel
theorem dL_law_780 : decode cL_law 780 = .ok (.iadd, 1) := by decide +kernel
theorem dL_law_781 : decode cL_law 781 = .ok (.iaload, 1) := by decide +kernel
theorem dL_law_782 : decode cL_law 782 = .ok (.aload_n 0, 1) := by decide +kernel
theorem dL_law_783 : decode cL_law 783 = .ok (.iload_n 3, 1) := by decide +kernel
theorem dL_law_784 : decode cL_law 784 = .ok (.iconst 3, 1) := by decide +kernel
theorem dL_law_785 : decode cL_law 785 = .ok (.iadd, 1) := by decide +kernel
theorem dL_law_786 : decode cL_law 786 = .ok (.iaload, 1) := by decide +kernel
theorem dL_law_787 : decode cL_law 787 = .ok (.invokevirtual 92, 3) := by decide +kernel
theorem dL_law_790 : decode cL_law 790 = .ok (.aload_n 2, 1) := by decide +kernel
theorem dL_law_791 : decode cL_law 791 = .ok (.aload_n 0, 1) := by decide +kernel
theorem dL_law_792 : decode cL_law 792 = .ok (.iload_n 3, 1) := by decide +kernel
theorem dL_law_793 : decode cL_law 793 = .ok (.iconst 1, 1) := by decide +kernel
theorem dL_law_794 : decode cL_law 794 = .ok (.iadd, 1) := by decide +kernel
theorem dL_law_795 : decode cL_law 795 = .ok (.iaload, 1) := by decide +kernel
theorem dL_law_796 : decode cL_law 796 = .ok (.aload_n 0, 1) := by decide +kernel
theorem dL_law_797 : decode cL_law 797 = .ok (.iload_n 3, 1) := by decide +kernel
theorem dL_law_798 : decode cL_law 798 = .ok (.iconst 2, 1) := by decide +kernel
theorem dL_law_799 : decode cL_law 799 = .ok (.iadd, 1) := by decide +kernel
theorem dL_law_800 : decode cL_law 800 = .ok (.iaload, 1) := by decide +kernel
theorem dL_law_801 : decode cL_law 801 = .ok (.aload_n 0, 1) := by decide +kernel
theorem dL_law_802 : decode cL_law 802 = .ok (.iload_n 3, 1) := by decide +kernel
theorem dL_law_803 : decode cL_law 803 = .ok (.iconst 3, 1) := by decide +kernel
theorem dL_law_804 : decode cL_law 804 = .ok (.iadd, 1) := by decide +kernel
theorem dL_law_805 : decode cL_law 805 = .ok (.iaload, 1) := by decide +kernel
theorem dL_law_806 : decode cL_law 806 = .ok (.invokevirtual 95, 3) := by decide +kernel
theorem dL_law_809 : decode cL_law 809 = .ok (.if_icmp .eq 240, 3) := by decide +kernel
theorem dL_law_812 : decode cL_law 812 = .ok (.iconst 0, 1) := by decide +kernel
theorem dL_law_813 : decode cL_law 813 = .ok (.ireturn, 1) := by decide +kernel
theorem dL_law_814 : decode cL_law 814 = .ok (.aload_n 1, 1) := by decide +kernel
theorem dL_law_815 : decode cL_law 815 = .ok (.aload_n 0, 1) := by decide +kernel
theorem dL_law_816 : decode cL_law 816 = .ok (.iload_n 3, 1) := by decide +kernel
theorem dL_law_817 : decode cL_law 817 = .ok (.iconst 1, 1) := by decide +kernel
theorem dL_law_818 : decode cL_law 818 = .ok (.iadd, 1) := by decide +kernel
theorem dL_law_819 : decode cL_law 819 = .ok (.iaload, 1) := by decide +kernel
theorem dL_law_820 : decode cL_law 820 = .ok (.aload_n 0, 1) := by decide +kernel
theorem dL_law_821 : decode cL_law 821 = .ok (.iload_n 3, 1) := by decide +kernel
theorem dL_law_822 : decode cL_law 822 = .ok (.iconst 2, 1) := by decide +kernel
theorem dL_law_823 : decode cL_law 823 = .ok (.iadd, 1) := by decide +kernel
theorem dL_law_824 : decode cL_law 824 = .ok (.iaload, 1) := by decide +kernel
theorem dL_law_825 : decode cL_law 825 = .ok (.aload_n 0, 1) := by decide +kernel
theorem dL_law_826 : decode cL_law 826 = .ok (.iload_n 3, 1) := by decide +kernel
theorem dL_law_827 : decode cL_law 827 = .ok (.iconst 3, 1) := by decide +kernel
theorem dL_law_828 : decode cL_law 828 = .ok (.iadd, 1) := by decide +kernel
theorem dL_law_829 : decode cL_law 829 = .ok (.iaload, 1) := by decide +kernel
theorem dL_law_830 : decode cL_law 830 = .ok (.invokevirtual 96, 3) := by decide +kernel
theorem dL_law_833 : decode cL_law 833 = .ok (.aload_n 2, 1) := by decide +kernel
theorem dL_law_834 : decode cL_law 834 = .ok (.aload_n 0, 1) := by decide +kernel
theorem dL_law_835 : decode cL_law 835 = .ok (.iload_n 3, 1) := by decide +kernel
theorem dL_law_836 : decode cL_law 836 = .ok (.iconst 1, 1) := by decide +kernel
theorem dL_law_837 : decode cL_law 837 = .ok (.iadd, 1) := by decide +kernel
theorem dL_law_838 : decode cL_law 838 = .ok (.iaload, 1) := by decide +kernel
theorem dL_law_839 : decode cL_law 839 = .ok (.aload_n 0, 1) := by decide +kernel
theorem dL_law_840 : decode cL_law 840 = .ok (.iload_n 3, 1) := by decide +kernel
theorem dL_law_841 : decode cL_law 841 = .ok (.iconst 2, 1) := by decide +kernel
theorem dL_law_842 : decode cL_law 842 = .ok (.iadd, 1) := by decide +kernel
theorem dL_law_843 : decode cL_law 843 = .ok (.iaload, 1) := by decide +kernel
theorem dL_law_844 : decode cL_law 844 = .ok (.aload_n 0, 1) := by decide +kernel
theorem dL_law_845 : decode cL_law 845 = .ok (.iload_n 3, 1) := by decide +kernel
theorem dL_law_846 : decode cL_law 846 = .ok (.iconst 3, 1) := by decide +kernel
theorem dL_law_847 : decode cL_law 847 = .ok (.iadd, 1) := by decide +kernel
theorem dL_law_848 : decode cL_law 848 = .ok (.iaload, 1) := by decide +kernel
theorem dL_law_849 : decode cL_law 849 = .ok (.invokevirtual 100, 3) := by decide +kernel
theorem dL_law_852 : decode cL_law 852 = .ok (.lcmp, 1) := by decide +kernel
theorem dL_law_853 : decode cL_law 853 = .ok (.ifCond .eq 196, 3) := by decide +kernel
theorem dL_law_856 : decode cL_law 856 = .ok (.iconst 0, 1) := by decide +kernel
theorem dL_law_857 : decode cL_law 857 = .ok (.ireturn, 1) := by decide +kernel
theorem dL_law_858 : decode cL_law 858 = .ok (.aload_n 1, 1) := by decide +kernel
theorem dL_law_859 : decode cL_law 859 = .ok (.aload_n 0, 1) := by decide +kernel
theorem dL_law_860 : decode cL_law 860 = .ok (.iload_n 3, 1) := by decide +kernel
theorem dL_law_861 : decode cL_law 861 = .ok (.iconst 1, 1) := by decide +kernel
theorem dL_law_862 : decode cL_law 862 = .ok (.iadd, 1) := by decide +kernel
theorem dL_law_863 : decode cL_law 863 = .ok (.iaload, 1) := by decide +kernel
theorem dL_law_864 : decode cL_law 864 = .ok (.aload_n 0, 1) := by decide +kernel
theorem dL_law_865 : decode cL_law 865 = .ok (.iload_n 3, 1) := by decide +kernel
theorem dL_law_866 : decode cL_law 866 = .ok (.iconst 2, 1) := by decide +kernel
theorem dL_law_867 : decode cL_law 867 = .ok (.iadd, 1) := by decide +kernel
theorem dL_law_868 : decode cL_law 868 = .ok (.iaload, 1) := by decide +kernel
theorem dL_law_869 : decode cL_law 869 = .ok (.aload_n 0, 1) := by decide +kernel
theorem dL_law_870 : decode cL_law 870 = .ok (.iload_n 3, 1) := by decide +kernel
theorem dL_law_871 : decode cL_law 871 = .ok (.iconst 3, 1) := by decide +kernel
theorem dL_law_872 : decode cL_law 872 = .ok (.iadd, 1) := by decide +kernel
theorem dL_law_873 : decode cL_law 873 = .ok (.iaload, 1) := by decide +kernel
theorem dL_law_874 : decode cL_law 874 = .ok (.aload_n 0, 1) := by decide +kernel
theorem dL_law_875 : decode cL_law 875 = .ok (.iload_n 3, 1) := by decide +kernel
theorem dL_law_876 : decode cL_law 876 = .ok (.iconst 4, 1) := by decide +kernel
theorem dL_law_877 : decode cL_law 877 = .ok (.iadd, 1) := by decide +kernel
theorem dL_law_878 : decode cL_law 878 = .ok (.iaload, 1) := by decide +kernel
theorem dL_law_879 : decode cL_law 879 = .ok (.aload_n 0, 1) := by decide +kernel
theorem dL_law_880 : decode cL_law 880 = .ok (.iload_n 3, 1) := by decide +kernel
theorem dL_law_881 : decode cL_law 881 = .ok (.iconst 5, 1) := by decide +kernel
theorem dL_law_882 : decode cL_law 882 = .ok (.iadd, 1) := by decide +kernel
theorem dL_law_883 : decode cL_law 883 = .ok (.iaload, 1) := by decide +kernel
theorem dL_law_884 : decode cL_law 884 = .ok (.invokevirtual 101, 3) := by decide +kernel
theorem dL_law_887 : decode cL_law 887 = .ok (.aload_n 2, 1) := by decide +kernel
theorem dL_law_888 : decode cL_law 888 = .ok (.aload_n 0, 1) := by decide +kernel
theorem dL_law_889 : decode cL_law 889 = .ok (.iload_n 3, 1) := by decide +kernel
theorem dL_law_890 : decode cL_law 890 = .ok (.iconst 1, 1) := by decide +kernel
theorem dL_law_891 : decode cL_law 891 = .ok (.iadd, 1) := by decide +kernel
theorem dL_law_892 : decode cL_law 892 = .ok (.iaload, 1) := by decide +kernel
theorem dL_law_893 : decode cL_law 893 = .ok (.aload_n 0, 1) := by decide +kernel
theorem dL_law_894 : decode cL_law 894 = .ok (.iload_n 3, 1) := by decide +kernel
theorem dL_law_895 : decode cL_law 895 = .ok (.iconst 2, 1) := by decide +kernel
theorem dL_law_896 : decode cL_law 896 = .ok (.iadd, 1) := by decide +kernel
theorem dL_law_897 : decode cL_law 897 = .ok (.iaload, 1) := by decide +kernel
theorem dL_law_898 : decode cL_law 898 = .ok (.aload_n 0, 1) := by decide +kernel
theorem dL_law_899 : decode cL_law 899 = .ok (.iload_n 3, 1) := by decide +kernel
theorem dL_law_900 : decode cL_law 900 = .ok (.iconst 3, 1) := by decide +kernel
theorem dL_law_901 : decode cL_law 901 = .ok (.iadd, 1) := by decide +kernel
theorem dL_law_902 : decode cL_law 902 = .ok (.iaload, 1) := by decide +kernel
theorem dL_law_903 : decode cL_law 903 = .ok (.aload_n 0, 1) := by decide +kernel
theorem dL_law_904 : decode cL_law 904 = .ok (.iload_n 3, 1) := by decide +kernel
theorem dL_law_905 : decode cL_law 905 = .ok (.iconst 4, 1) := by decide +kernel
theorem dL_law_906 : decode cL_law 906 = .ok (.iadd, 1) := by decide +kernel
theorem dL_law_907 : decode cL_law 907 = .ok (.iaload, 1) := by decide +kernel
theorem dL_law_908 : decode cL_law 908 = .ok (.aload_n 0, 1) := by decide +kernel
theorem dL_law_909 : decode cL_law 909 = .ok (.iload_n 3, 1) := by decide +kernel
theorem dL_law_910 : decode cL_law 910 = .ok (.iconst 5, 1) := by decide +kernel
theorem dL_law_911 : decode cL_law 911 = .ok (.iadd, 1) := by decide +kernel
theorem dL_law_912 : decode cL_law 912 = .ok (.iaload, 1) := by decide +kernel
theorem dL_law_913 : decode cL_law 913 = .ok (.invokevirtual 104, 3) := by decide +kernel
theorem dL_law_916 : decode cL_law 916 = .ok (.if_icmp .eq 133, 3) := by decide +kernel
theorem dL_law_919 : decode cL_law 919 = .ok (.iconst 0, 1) := by decide +kernel
theorem dL_law_920 : decode cL_law 920 = .ok (.ireturn, 1) := by decide +kernel
theorem dL_law_921 : decode cL_law 921 = .ok (.aload_n 1, 1) := by decide +kernel
theorem dL_law_922 : decode cL_law 922 = .ok (.aload_n 0, 1) := by decide +kernel
theorem dL_law_923 : decode cL_law 923 = .ok (.iload_n 3, 1) := by decide +kernel
theorem dL_law_924 : decode cL_law 924 = .ok (.iconst 1, 1) := by decide +kernel
theorem dL_law_925 : decode cL_law 925 = .ok (.iadd, 1) := by decide +kernel
theorem dL_law_926 : decode cL_law 926 = .ok (.iaload, 1) := by decide +kernel
theorem dL_law_927 : decode cL_law 927 = .ok (.invokevirtual 105, 3) := by decide +kernel
theorem dL_law_930 : decode cL_law 930 = .ok (.aload_n 2, 1) := by decide +kernel
theorem dL_law_931 : decode cL_law 931 = .ok (.aload_n 0, 1) := by decide +kernel
theorem dL_law_932 : decode cL_law 932 = .ok (.iload_n 3, 1) := by decide +kernel
theorem dL_law_933 : decode cL_law 933 = .ok (.iconst 1, 1) := by decide +kernel
theorem dL_law_934 : decode cL_law 934 = .ok (.iadd, 1) := by decide +kernel
theorem dL_law_935 : decode cL_law 935 = .ok (.iaload, 1) := by decide +kernel
theorem dL_law_936 : decode cL_law 936 = .ok (.invokevirtual 108, 3) := by decide +kernel
theorem dL_law_939 : decode cL_law 939 = .ok (.if_icmp .eq 110, 3) := by decide +kernel
theorem dL_law_942 : decode cL_law 942 = .ok (.iconst 0, 1) := by decide +kernel
theorem dL_law_943 : decode cL_law 943 = .ok (.ireturn, 1) := by decide +kernel
theorem dL_law_944 : decode cL_law 944 = .ok (.aload_n 1, 1) := by decide +kernel
theorem dL_law_945 : decode cL_law 945 = .ok (.aload_n 0, 1) := by decide +kernel
theorem dL_law_946 : decode cL_law 946 = .ok (.iload_n 3, 1) := by decide +kernel
theorem dL_law_947 : decode cL_law 947 = .ok (.iconst 1, 1) := by decide +kernel
theorem dL_law_948 : decode cL_law 948 = .ok (.iadd, 1) := by decide +kernel
theorem dL_law_949 : decode cL_law 949 = .ok (.iaload, 1) := by decide +kernel
theorem dL_law_950 : decode cL_law 950 = .ok (.invokevirtual 109, 3) := by decide +kernel
theorem dL_law_953 : decode cL_law 953 = .ok (.aload_n 2, 1) := by decide +kernel
theorem dL_law_954 : decode cL_law 954 = .ok (.aload_n 0, 1) := by decide +kernel
theorem dL_law_955 : decode cL_law 955 = .ok (.iload_n 3, 1) := by decide +kernel
theorem dL_law_956 : decode cL_law 956 = .ok (.iconst 1, 1) := by decide +kernel
theorem dL_law_957 : decode cL_law 957 = .ok (.iadd, 1) := by decide +kernel
theorem dL_law_958 : decode cL_law 958 = .ok (.iaload, 1) := by decide +kernel
theorem dL_law_959 : decode cL_law 959 = .ok (.invokevirtual 112, 3) := by decide +kernel
theorem dL_law_962 : decode cL_law 962 = .ok (.if_icmp .eq 87, 3) := by decide +kernel
theorem dL_law_965 : decode cL_law 965 = .ok (.iconst 0, 1) := by decide +kernel
theorem dL_law_966 : decode cL_law 966 = .ok (.ireturn, 1) := by decide +kernel
theorem dL_law_967 : decode cL_law 967 = .ok (.aload_n 1, 1) := by decide +kernel
theorem dL_law_968 : decode cL_law 968 = .ok (.aload_n 0, 1) := by decide +kernel
theorem dL_law_969 : decode cL_law 969 = .ok (.iload_n 3, 1) := by decide +kernel
theorem dL_law_970 : decode cL_law 970 = .ok (.iconst 1, 1) := by decide +kernel
theorem dL_law_971 : decode cL_law 971 = .ok (.iadd, 1) := by decide +kernel
theorem dL_law_972 : decode cL_law 972 = .ok (.iaload, 1) := by decide +kernel
theorem dL_law_973 : decode cL_law 973 = .ok (.aload_n 0, 1) := by decide +kernel
theorem dL_law_974 : decode cL_law 974 = .ok (.iload_n 3, 1) := by decide +kernel
theorem dL_law_975 : decode cL_law 975 = .ok (.iconst 2, 1) := by decide +kernel
theorem dL_law_976 : decode cL_law 976 = .ok (.iadd, 1) := by decide +kernel
theorem dL_law_977 : decode cL_law 977 = .ok (.iaload, 1) := by decide +kernel
theorem dL_law_978 : decode cL_law 978 = .ok (.invokevirtual 113, 3) := by decide +kernel
theorem dL_law_981 : decode cL_law 981 = .ok (.aload_n 2, 1) := by decide +kernel
theorem dL_law_982 : decode cL_law 982 = .ok (.aload_n 0, 1) := by decide +kernel
theorem dL_law_983 : decode cL_law 983 = .ok (.iload_n 3, 1) := by decide +kernel
theorem dL_law_984 : decode cL_law 984 = .ok (.iconst 1, 1) := by decide +kernel
theorem dL_law_985 : decode cL_law 985 = .ok (.iadd, 1) := by decide +kernel
theorem dL_law_986 : decode cL_law 986 = .ok (.iaload, 1) := by decide +kernel
theorem dL_law_987 : decode cL_law 987 = .ok (.aload_n 0, 1) := by decide +kernel
theorem dL_law_988 : decode cL_law 988 = .ok (.iload_n 3, 1) := by decide +kernel
theorem dL_law_989 : decode cL_law 989 = .ok (.iconst 2, 1) := by decide +kernel
theorem dL_law_990 : decode cL_law 990 = .ok (.iadd, 1) := by decide +kernel
theorem dL_law_991 : decode cL_law 991 = .ok (.iaload, 1) := by decide +kernel
theorem dL_law_992 : decode cL_law 992 = .ok (.invokevirtual 116, 3) := by decide +kernel
theorem dL_law_995 : decode cL_law 995 = .ok (.if_icmp .eq 54, 3) := by decide +kernel
theorem dL_law_998 : decode cL_law 998 = .ok (.iconst 0, 1) := by decide +kernel
theorem dL_law_999 : decode cL_law 999 = .ok (.ireturn, 1) := by decide +kernel
theorem dL_law_1000 : decode cL_law 1000 = .ok (.aload_n 1, 1) := by decide +kernel
theorem dL_law_1001 : decode cL_law 1001 = .ok (.invokevirtual 117, 3) := by decide +kernel
theorem dL_law_1004 : decode cL_law 1004 = .ok (.aload_n 2, 1) := by decide +kernel
theorem dL_law_1005 : decode cL_law 1005 = .ok (.invokevirtual 120, 3) := by decide +kernel
theorem dL_law_1008 : decode cL_law 1008 = .ok (.if_icmp .eq 41, 3) := by decide +kernel
theorem dL_law_1011 : decode cL_law 1011 = .ok (.iconst 0, 1) := by decide +kernel
theorem dL_law_1012 : decode cL_law 1012 = .ok (.ireturn, 1) := by decide +kernel
theorem dL_law_1013 : decode cL_law 1013 = .ok (.aload_n 1, 1) := by decide +kernel
theorem dL_law_1014 : decode cL_law 1014 = .ok (.invokevirtual 121, 3) := by decide +kernel
theorem dL_law_1017 : decode cL_law 1017 = .ok (.aload_n 2, 1) := by decide +kernel
theorem dL_law_1018 : decode cL_law 1018 = .ok (.invokevirtual 124, 3) := by decide +kernel
theorem dL_law_1021 : decode cL_law 1021 = .ok (.if_icmp .eq 28, 3) := by decide +kernel
theorem dL_law_1024 : decode cL_law 1024 = .ok (.iconst 0, 1) := by decide +kernel
theorem dL_law_1025 : decode cL_law 1025 = .ok (.ireturn, 1) := by decide +kernel
theorem dL_law_1026 : decode cL_law 1026 = .ok (.aload_n 1, 1) := by decide +kernel
theorem dL_law_1027 : decode cL_law 1027 = .ok (.aload_n 0, 1) := by decide +kernel
theorem dL_law_1028 : decode cL_law 1028 = .ok (.iload_n 3, 1) := by decide +kernel
theorem dL_law_1029 : decode cL_law 1029 = .ok (.iconst 1, 1) := by decide +kernel
theorem dL_law_1030 : decode cL_law 1030 = .ok (.iadd, 1) := by decide +kernel
theorem dL_law_1031 : decode cL_law 1031 = .ok (.iaload, 1) := by decide +kernel
theorem dL_law_1032 : decode cL_law 1032 = .ok (.invokevirtual 125, 3) := by decide +kernel
theorem dL_law_1035 : decode cL_law 1035 = .ok (.aload_n 2, 1) := by decide +kernel
theorem dL_law_1036 : decode cL_law 1036 = .ok (.aload_n 0, 1) := by decide +kernel
theorem dL_law_1037 : decode cL_law 1037 = .ok (.iload_n 3, 1) := by decide +kernel
theorem dL_law_1038 : decode cL_law 1038 = .ok (.iconst 1, 1) := by decide +kernel
theorem dL_law_1039 : decode cL_law 1039 = .ok (.iadd, 1) := by decide +kernel
theorem dL_law_1040 : decode cL_law 1040 = .ok (.iaload, 1) := by decide +kernel
theorem dL_law_1041 : decode cL_law 1041 = .ok (.invokevirtual 128, 3) := by decide +kernel
theorem dL_law_1044 : decode cL_law 1044 = .ok (.if_icmp .eq 5, 3) := by decide +kernel
theorem dL_law_1047 : decode cL_law 1047 = .ok (.iconst 0, 1) := by decide +kernel
theorem dL_law_1048 : decode cL_law 1048 = .ok (.ireturn, 1) := by decide +kernel
theorem dL_law_1049 : decode cL_law 1049 = .ok (.iinc 3 6, 3) := by decide +kernel
theorem dL_law_1052 : decode cL_law 1052 = .ok (.goto (-1034), 3) := by decide +kernel
theorem dL_law_1055 : decode cL_law 1055 = .ok (.iconst 1, 1) := by decide +kernel
theorem dL_law_1056 : decode cL_law 1056 = .ok (.ireturn, 1) := by decide +kernel

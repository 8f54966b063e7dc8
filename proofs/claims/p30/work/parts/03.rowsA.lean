theorem dX0_init_0 : decode cX0_init 0 = .ok (.aload_n 0, 1) := by decide +kernel
theorem dX0_init_1 : decode cX0_init 1 = .ok (.invokespecial 3, 3) := by decide +kernel
theorem dX0_init_4 : decode cX0_init 4 = .ok (.aload_n 0, 1) := by decide +kernel
theorem dX0_init_5 : decode cX0_init 5 = .ok (.iconst 0, 1) := by decide +kernel
theorem dX0_init_6 : decode cX0_init 6 = .ok (.putfield 9, 3) := by decide +kernel
theorem dX0_init_9 : decode cX0_init 9 = .ok (.aload_n 0, 1) := by decide +kernel
theorem dX0_init_10 : decode cX0_init 10 = .ok (.bipush 8, 2) := by decide +kernel
theorem dX0_init_12 : decode cX0_init 12 = .ok (.newarray .int, 2) := by decide +kernel
theorem dX0_init_14 : decode cX0_init 14 = .ok (.putfield 15, 3) := by decide +kernel
theorem dX0_init_17 : decode cX0_init 17 = .ok (.aload_n 0, 1) := by decide +kernel
theorem dX0_init_18 : decode cX0_init 18 = .ok (.bipush 8, 2) := by decide +kernel
theorem dX0_init_20 : decode cX0_init 20 = .ok (.newarray .int, 2) := by decide +kernel
theorem dX0_init_22 : decode cX0_init 22 = .ok (.putfield 19, 3) := by decide +kernel
theorem dX0_init_25 : decode cX0_init 25 = .ok (.aload_n 0, 1) := by decide +kernel
theorem dX0_init_26 : decode cX0_init 26 = .ok (.bipush 8, 2) := by decide +kernel
theorem dX0_init_28 : decode cX0_init 28 = .ok (.newarray .int, 2) := by decide +kernel
theorem dX0_init_30 : decode cX0_init 30 = .ok (.putfield 22, 3) := by decide +kernel
theorem dX0_init_33 : decode cX0_init 33 = .ok (.return_, 1) := by decide +kernel
theorem dX0_size_0 : decode cX0_size 0 = .ok (.aload_n 0, 1) := by decide +kernel
theorem dX0_size_1 : decode cX0_size 1 = .ok (.getfield 9, 3) := by decide +kernel
theorem dX0_size_4 : decode cX0_size 4 = .ok (.ireturn, 1) := by decide +kernel
theorem dX0_dropLast_0 : decode cX0_dropLast 0 = .ok (.iload_n 1, 1) := by decide +kernel
theorem dX0_dropLast_1 : decode cX0_dropLast 1 = .ok (.ifCond .lt 21, 3) := by decide +kernel
theorem dX0_dropLast_4 : decode cX0_dropLast 4 = .ok (.iload_n 1, 1) := by decide +kernel
theorem dX0_dropLast_5 : decode cX0_dropLast 5 = .ok (.aload_n 0, 1) := by decide +kernel
theorem dX0_dropLast_6 : decode cX0_dropLast 6 = .ok (.getfield 9, 3) := by decide +kernel
theorem dX0_dropLast_9 : decode cX0_dropLast 9 = .ok (.if_icmp .gt 13, 3) := by decide +kernel
theorem dX0_dropLast_12 : decode cX0_dropLast 12 = .ok (.aload_n 0, 1) := by decide +kernel
theorem dX0_dropLast_13 : decode cX0_dropLast 13 = .ok (.dup, 1) := by decide +kernel
theorem dX0_dropLast_14 : decode cX0_dropLast 14 = .ok (.getfield 9, 3) := by decide +kernel
theorem dX0_dropLast_17 : decode cX0_dropLast 17 = .ok (.iload_n 1, 1) := by decide +kernel
theorem dX0_dropLast_18 : decode cX0_dropLast 18 = .ok (.isub, 1) := by decide +kernel
theorem dX0_dropLast_19 : decode cX0_dropLast 19 = .ok (.putfield 9, 3) := by decide +kernel
theorem dX0_dropLast_22 : decode cX0_dropLast 22 = .ok (.return_, 1) := by decide +kernel
theorem dX1_init_0 : decode cX1_init 0 = .ok (.aload_n 0, 1) := by decide +kernel
theorem dX1_init_1 : decode cX1_init 1 = .ok (.invokespecial 3, 3) := by decide +kernel
theorem dX1_init_4 : decode cX1_init 4 = .ok (.aload_n 0, 1) := by decide +kernel
theorem dX1_init_5 : decode cX1_init 5 = .ok (.iconst 0, 1) := by decide +kernel
theorem dX1_init_6 : decode cX1_init 6 = .ok (.putfield 9, 3) := by decide +kernel
theorem dX1_init_9 : decode cX1_init 9 = .ok (.aload_n 0, 1) := by decide +kernel
theorem dX1_init_10 : decode cX1_init 10 = .ok (.iconst (-1), 1) := by decide +kernel
theorem dX1_init_11 : decode cX1_init 11 = .ok (.putfield 15, 3) := by decide +kernel
theorem dX1_init_14 : decode cX1_init 14 = .ok (.aload_n 0, 1) := by decide +kernel
theorem dX1_init_15 : decode cX1_init 15 = .ok (.bipush 60, 2) := by decide +kernel
theorem dX1_init_17 : decode cX1_init 17 = .ok (.newarray .int, 2) := by decide +kernel
theorem dX1_init_19 : decode cX1_init 19 = .ok (.putfield 18, 3) := by decide +kernel
theorem dX1_init_22 : decode cX1_init 22 = .ok (.return_, 1) := by decide +kernel
theorem dX1_renew_0 : decode cX1_renew 0 = .ok (.iload_n 2, 1) := by decide +kernel
theorem dX1_renew_1 : decode cX1_renew 1 = .ok (.ifCond .lt 9, 3) := by decide +kernel
theorem dX1_renew_4 : decode cX1_renew 4 = .ok (.iload_n 2, 1) := by decide +kernel
theorem dX1_renew_5 : decode cX1_renew 5 = .ok (.bipush 60, 2) := by decide +kernel
theorem dX1_renew_7 : decode cX1_renew 7 = .ok (.if_icmp .le 4, 3) := by decide +kernel
theorem dX1_renew_10 : decode cX1_renew 10 = .ok (.return_, 1) := by decide +kernel
theorem dX1_renew_11 : decode cX1_renew 11 = .ok (.aload_n 0, 1) := by decide +kernel
theorem dX1_renew_12 : decode cX1_renew 12 = .ok (.iload_n 1, 1) := by decide +kernel
theorem dX1_renew_13 : decode cX1_renew 13 = .ok (.putfield 9, 3) := by decide +kernel
theorem dX1_renew_16 : decode cX1_renew 16 = .ok (.aload_n 0, 1) := by decide +kernel
theorem dX1_renew_17 : decode cX1_renew 17 = .ok (.iload_n 2, 1) := by decide +kernel
theorem dX1_renew_18 : decode cX1_renew 18 = .ok (.putfield 15, 3) := by decide +kernel
theorem dX1_renew_21 : decode cX1_renew 21 = .ok (.iconst 0, 1) := by decide +kernel
theorem dX1_renew_22 : decode cX1_renew 22 = .ok (.istore_n 3, 1) := by decide +kernel
theorem dX1_renew_23 : decode cX1_renew 23 = .ok (.iload_n 3, 1) := by decide +kernel
theorem dX1_renew_24 : decode cX1_renew 24 = .ok (.iload_n 2, 1) := by decide +kernel
theorem dX1_renew_25 : decode cX1_renew 25 = .ok (.if_icmp .ge 16, 3) := by decide +kernel
theorem dX1_renew_28 : decode cX1_renew 28 = .ok (.aload_n 0, 1) := by decide +kernel
theorem dX1_renew_29 : decode cX1_renew 29 = .ok (.getfield 18, 3) := by decide +kernel
theorem dX1_renew_32 : decode cX1_renew 32 = .ok (.iload_n 3, 1) := by decide +kernel
theorem dX1_renew_33 : decode cX1_renew 33 = .ok (.iconst 0, 1) := by decide +kernel
theorem dX1_renew_34 : decode cX1_renew 34 = .ok (.iastore, 1) := by decide +kernel
theorem dX1_renew_35 : decode cX1_renew 35 = .ok (.iinc 3 1, 3) := by decide +kernel
theorem dX1_renew_38 : decode cX1_renew 38 = .ok (.goto (-15), 3) := by decide +kernel
theorem dX1_renew_41 : decode cX1_renew 41 = .ok (.return_, 1) := by decide +kernel
theorem dX1_hasRow_0 : decode cX1_hasRow 0 = .ok (.aload_n 0, 1) := by decide +kernel
theorem dX1_hasRow_1 : decode cX1_hasRow 1 = .ok (.getfield 15, 3) := by decide +kernel
theorem dX1_hasRow_4 : decode cX1_hasRow 4 = .ok (.iconst (-1), 1) := by decide +kernel
theorem dX1_hasRow_5 : decode cX1_hasRow 5 = .ok (.if_icmp .eq 7, 3) := by decide +kernel
theorem dX1_hasRow_8 : decode cX1_hasRow 8 = .ok (.iconst 1, 1) := by decide +kernel
theorem dX1_hasRow_9 : decode cX1_hasRow 9 = .ok (.goto 4, 3) := by decide +kernel
theorem dX1_hasRow_12 : decode cX1_hasRow 12 = .ok (.iconst 0, 1) := by decide +kernel
theorem dX1_hasRow_13 : decode cX1_hasRow 13 = .ok (.ireturn, 1) := by decide +kernel
theorem dX1_laneOf_0 : decode cX1_laneOf 0 = .ok (.aload_n 0, 1) := by decide +kernel
theorem dX1_laneOf_1 : decode cX1_laneOf 1 = .ok (.getfield 9, 3) := by decide +kernel
theorem dX1_laneOf_4 : decode cX1_laneOf 4 = .ok (.ireturn, 1) := by decide +kernel
theorem dX1_hasCells_0 : decode cX1_hasCells 0 = .ok (.iload_n 1, 1) := by decide +kernel
theorem dX1_hasCells_1 : decode cX1_hasCells 1 = .ok (.ifCond .lt 29, 3) := by decide +kernel
theorem dX1_hasCells_4 : decode cX1_hasCells 4 = .ok (.iload_n 1, 1) := by decide +kernel
theorem dX1_hasCells_5 : decode cX1_hasCells 5 = .ok (.aload_n 0, 1) := by decide +kernel
theorem dX1_hasCells_6 : decode cX1_hasCells 6 = .ok (.getfield 15, 3) := by decide +kernel
theorem dX1_hasCells_9 : decode cX1_hasCells 9 = .ok (.if_icmp .gt 21, 3) := by decide +kernel
theorem dX1_hasCells_12 : decode cX1_hasCells 12 = .ok (.iload_n 2, 1) := by decide +kernel
theorem dX1_hasCells_13 : decode cX1_hasCells 13 = .ok (.ifCond .lt 17, 3) := by decide +kernel
theorem dX1_hasCells_16 : decode cX1_hasCells 16 = .ok (.iload_n 2, 1) := by decide +kernel
theorem dX1_hasCells_17 : decode cX1_hasCells 17 = .ok (.aload_n 0, 1) := by decide +kernel
theorem dX1_hasCells_18 : decode cX1_hasCells 18 = .ok (.getfield 15, 3) := by decide +kernel
theorem dX1_hasCells_21 : decode cX1_hasCells 21 = .ok (.iload_n 1, 1) := by decide +kernel
theorem dX1_hasCells_22 : decode cX1_hasCells 22 = .ok (.isub, 1) := by decide +kernel
theorem dX1_hasCells_23 : decode cX1_hasCells 23 = .ok (.if_icmp .gt 7, 3) := by decide +kernel
theorem dX1_hasCells_26 : decode cX1_hasCells 26 = .ok (.iconst 1, 1) := by decide +kernel
theorem dX1_hasCells_27 : decode cX1_hasCells 27 = .ok (.goto 4, 3) := by decide +kernel
theorem dX1_hasCells_30 : decode cX1_hasCells 30 = .ok (.iconst 0, 1) := by decide +kernel
theorem dX1_hasCells_31 : decode cX1_hasCells 31 = .ok (.ireturn, 1) := by decide +kernel
set_option maxRecDepth 20000 in
theorem ggX1_rowFault_X1_hasRow : GoodIn wsX1_rowFault wsX1_hasRow := goodIn_r _ [6, 7, 12, 13, 14] (by decide +kernel) (by decide +kernel)
set_option maxRecDepth 20000 in
theorem gX1_rowFault_X1_hasRow : GoodIn wsX1_rowFault (wsV RX1 22 RX1 yX1_hasRow wsX1_hasRow) := goodIn_app (goodIn_of _ (by decide +kernel)) ggX1_rowFault_X1_hasRow
set_option maxRecDepth 20000 in
theorem ggX1_rowFault_X1_hasCells : GoodIn wsX1_rowFault wsX1_hasCells := goodIn_r _ [11, 7, 12, 13, 14] (by decide +kernel) (by decide +kernel)
set_option maxRecDepth 20000 in
theorem gX1_rowFault_X1_hasCells : GoodIn wsX1_rowFault (wsV RX1 26 RX1 yX1_hasCells wsX1_hasCells) := goodIn_app (goodIn_of _ (by decide +kernel)) ggX1_rowFault_X1_hasCells
theorem dX1_rowFault_0 : decode cX1_rowFault 0 = .ok (.aload_n 0, 1) := by decide +kernel
theorem dX1_rowFault_1 : decode cX1_rowFault 1 = .ok (.invokevirtual 22, 3) := by decide +kernel
theorem dX1_rowFault_4 : decode cX1_rowFault 4 = .ok (.ifCond .ne 5, 3) := by decide +kernel
theorem dX1_rowFault_7 : decode cX1_rowFault 7 = .ok (.iconst 1, 1) := by decide +kernel
theorem dX1_rowFault_8 : decode cX1_rowFault 8 = .ok (.ireturn, 1) := by decide +kernel
theorem dX1_rowFault_9 : decode cX1_rowFault 9 = .ok (.aload_n 0, 1) := by decide +kernel
theorem dX1_rowFault_10 : decode cX1_rowFault 10 = .ok (.getfield 9, 3) := by decide +kernel
theorem dX1_rowFault_13 : decode cX1_rowFault 13 = .ok (.iload_n 1, 1) := by decide +kernel
theorem dX1_rowFault_14 : decode cX1_rowFault 14 = .ok (.if_icmp .eq 5, 3) := by decide +kernel
theorem dX1_rowFault_17 : decode cX1_rowFault 17 = .ok (.iconst 2, 1) := by decide +kernel
theorem dX1_rowFault_18 : decode cX1_rowFault 18 = .ok (.ireturn, 1) := by decide +kernel
theorem dX1_rowFault_19 : decode cX1_rowFault 19 = .ok (.iload_n 3, 1) := by decide +kernel
theorem dX1_rowFault_20 : decode cX1_rowFault 20 = .ok (.ifCond .ge 5, 3) := by decide +kernel
theorem dX1_rowFault_23 : decode cX1_rowFault 23 = .ok (.iconst 4, 1) := by decide +kernel
theorem dX1_rowFault_24 : decode cX1_rowFault 24 = .ok (.ireturn, 1) := by decide +kernel
theorem dX1_rowFault_25 : decode cX1_rowFault 25 = .ok (.aload_n 0, 1) := by decide +kernel
theorem dX1_rowFault_26 : decode cX1_rowFault 26 = .ok (.iload_n 2, 1) := by decide +kernel
theorem dX1_rowFault_27 : decode cX1_rowFault 27 = .ok (.iload_n 3, 1) := by decide +kernel
theorem dX1_rowFault_28 : decode cX1_rowFault 28 = .ok (.invokevirtual 26, 3) := by decide +kernel
theorem dX1_rowFault_31 : decode cX1_rowFault 31 = .ok (.ifCond .eq 7, 3) := by decide +kernel
theorem dX1_rowFault_34 : decode cX1_rowFault 34 = .ok (.iconst 0, 1) := by decide +kernel
theorem dX1_rowFault_35 : decode cX1_rowFault 35 = .ok (.goto 4, 3) := by decide +kernel
theorem dX1_rowFault_38 : decode cX1_rowFault 38 = .ok (.iconst 3, 1) := by decide +kernel
theorem dX1_rowFault_39 : decode cX1_rowFault 39 = .ok (.ireturn, 1) := by decide +kernel
theorem dX1_valueAt_0 : decode cX1_valueAt 0 = .ok (.iload_n 1, 1) := by decide +kernel
theorem dX1_valueAt_1 : decode cX1_valueAt 1 = .ok (.ifCond .lt 20, 3) := by decide +kernel
theorem dX1_valueAt_4 : decode cX1_valueAt 4 = .ok (.iload_n 1, 1) := by decide +kernel
theorem dX1_valueAt_5 : decode cX1_valueAt 5 = .ok (.aload_n 0, 1) := by decide +kernel
theorem dX1_valueAt_6 : decode cX1_valueAt 6 = .ok (.getfield 15, 3) := by decide +kernel
theorem dX1_valueAt_9 : decode cX1_valueAt 9 = .ok (.if_icmp .ge 12, 3) := by decide +kernel
theorem dX1_valueAt_12 : decode cX1_valueAt 12 = .ok (.aload_n 0, 1) := by decide +kernel
theorem dX1_valueAt_13 : decode cX1_valueAt 13 = .ok (.getfield 18, 3) := by decide +kernel
theorem dX1_valueAt_16 : decode cX1_valueAt 16 = .ok (.iload_n 1, 1) := by decide +kernel
theorem dX1_valueAt_17 : decode cX1_valueAt 17 = .ok (.iaload, 1) := by decide +kernel
theorem dX1_valueAt_18 : decode cX1_valueAt 18 = .ok (.goto 4, 3) := by decide +kernel
theorem dX1_valueAt_21 : decode cX1_valueAt 21 = .ok (.iconst 0, 1) := by decide +kernel
theorem dX1_valueAt_22 : decode cX1_valueAt 22 = .ok (.ireturn, 1) := by decide +kernel
set_option maxRecDepth 20000 in
theorem ggX1_setAt_X1_cutToLane : GoodIn wsX1_setAt wsX1_cutToLane := goodIn_r _ [7, 8, 9, 10, 11] (by decide +kernel) (by decide +kernel)
set_option maxRecDepth 20000 in
theorem gX1_setAt_X1_cutToLane : GoodIn wsX1_setAt (wsV RX1 30 RX1 yX1_cutToLane wsX1_cutToLane) := goodIn_app (goodIn_of _ (by decide +kernel)) ggX1_setAt_X1_cutToLane
theorem dX1_setAt_0 : decode cX1_setAt 0 = .ok (.iload_n 1, 1) := by decide +kernel
theorem dX1_setAt_1 : decode cX1_setAt 1 = .ok (.ifCond .lt 22, 3) := by decide +kernel
theorem dX1_setAt_4 : decode cX1_setAt 4 = .ok (.iload_n 1, 1) := by decide +kernel
theorem dX1_setAt_5 : decode cX1_setAt 5 = .ok (.aload_n 0, 1) := by decide +kernel
theorem dX1_setAt_6 : decode cX1_setAt 6 = .ok (.getfield 15, 3) := by decide +kernel
theorem dX1_setAt_9 : decode cX1_setAt 9 = .ok (.if_icmp .ge 14, 3) := by decide +kernel
theorem dX1_setAt_12 : decode cX1_setAt 12 = .ok (.aload_n 0, 1) := by decide +kernel
theorem dX1_setAt_13 : decode cX1_setAt 13 = .ok (.getfield 18, 3) := by decide +kernel
theorem dX1_setAt_16 : decode cX1_setAt 16 = .ok (.iload_n 1, 1) := by decide +kernel
theorem dX1_setAt_17 : decode cX1_setAt 17 = .ok (.aload_n 0, 1) := by decide +kernel
theorem dX1_setAt_18 : decode cX1_setAt 18 = .ok (.iload_n 2, 1) := by decide +kernel
theorem dX1_setAt_19 : decode cX1_setAt 19 = .ok (.invokevirtual 30, 3) := by decide +kernel
theorem dX1_setAt_22 : decode cX1_setAt 22 = .ok (.iastore, 1) := by decide +kernel
theorem dX1_setAt_23 : decode cX1_setAt 23 = .ok (.return_, 1) := by decide +kernel
theorem dX1_cutToLane_0 : decode cX1_cutToLane 0 = .ok (.aload_n 0, 1) := by decide +kernel
theorem dX1_cutToLane_1 : decode cX1_cutToLane 1 = .ok (.getfield 9, 3) := by decide +kernel
theorem dX1_cutToLane_4 : decode cX1_cutToLane 4 = .ok (.lookupswitch 34 #[(0, 28), (1, 31)], 28) := by decide +kernel
theorem dX1_cutToLane_32 : decode cX1_cutToLane 32 = .ok (.iload_n 1, 1) := by decide +kernel
theorem dX1_cutToLane_33 : decode cX1_cutToLane 33 = .ok (.i2b, 1) := by decide +kernel
theorem dX1_cutToLane_34 : decode cX1_cutToLane 34 = .ok (.ireturn, 1) := by decide +kernel
theorem dX1_cutToLane_35 : decode cX1_cutToLane 35 = .ok (.iload_n 1, 1) := by decide +kernel
theorem dX1_cutToLane_36 : decode cX1_cutToLane 36 = .ok (.i2s, 1) := by decide +kernel
theorem dX1_cutToLane_37 : decode cX1_cutToLane 37 = .ok (.ireturn, 1) := by decide +kernel
theorem dX1_cutToLane_38 : decode cX1_cutToLane 38 = .ok (.iload_n 1, 1) := by decide +kernel
theorem dX1_cutToLane_39 : decode cX1_cutToLane 39 = .ok (.ireturn, 1) := by decide +kernel
theorem dX2_init_0 : decode cX2_init 0 = .ok (.aload_n 0, 1) := by decide +kernel
theorem dX2_init_1 : decode cX2_init 1 = .ok (.invokespecial 3, 3) := by decide +kernel
theorem dX2_init_4 : decode cX2_init 4 = .ok (.aload_n 0, 1) := by decide +kernel
theorem dX2_init_5 : decode cX2_init 5 = .ok (.aload_n 1, 1) := by decide +kernel
theorem dX2_init_6 : decode cX2_init 6 = .ok (.putfield 9, 3) := by decide +kernel
theorem dX2_init_9 : decode cX2_init 9 = .ok (.aload_n 0, 1) := by decide +kernel
theorem dX2_init_10 : decode cX2_init 10 = .ok (.iconst 0, 1) := by decide +kernel
theorem dX2_init_11 : decode cX2_init 11 = .ok (.putfield 15, 3) := by decide +kernel
theorem dX2_init_14 : decode cX2_init 14 = .ok (.aload_n 0, 1) := by decide +kernel
theorem dX2_init_15 : decode cX2_init 15 = .ok (.iconst 0, 1) := by decide +kernel
theorem dX2_init_16 : decode cX2_init 16 = .ok (.putfield 19, 3) := by decide +kernel
theorem dX2_init_19 : decode cX2_init 19 = .ok (.aload_n 0, 1) := by decide +kernel
theorem dX2_init_20 : decode cX2_init 20 = .ok (.iconst 0, 1) := by decide +kernel
theorem dX2_init_21 : decode cX2_init 21 = .ok (.putfield 22, 3) := by decide +kernel
theorem dX2_init_24 : decode cX2_init 24 = .ok (.aload_n 0, 1) := by decide +kernel
theorem dX2_init_25 : decode cX2_init 25 = .ok (.aload_n 2, 1) := by decide +kernel
theorem dX2_init_26 : decode cX2_init 26 = .ok (.putfield 25, 3) := by decide +kernel
theorem dX2_init_29 : decode cX2_init 29 = .ok (.return_, 1) := by decide +kernel
set_option maxRecDepth 20000 in
theorem ggX2_firstFault_X3_clear : GoodIn wsX2_firstFault wsX3_clear := goodIn_r _ [10, 11, 12, 78, 79, 80, 81, 82, 83, 84] (by decide +kernel) (by decide +kernel)
set_option maxRecDepth 20000 in
theorem gX2_firstFault_X3_clear : GoodIn wsX2_firstFault (wsV RX2 29 RX3 yX3_clear wsX3_clear) := goodIn_app (goodIn_of _ (by decide +kernel)) ggX2_firstFault_X3_clear
set_option maxRecDepth 20000 in
theorem ggX2_firstFault_X2_isTaken : GoodIn wsX2_firstFault wsX2_isTaken := goodIn_r _ [17, 4, 18, 19, 20, 16, 21, 3, 1, 2, 22, 23, 24, 25, 26, 27, 28, 73, 74, 75, 76, 77, 85, 86, 87] (by decide +kernel) (by decide +kernel)
set_option maxRecDepth 20000 in
theorem gX2_firstFault_X2_isTaken : GoodIn wsX2_firstFault (wsV RX2 34 RX2 yX2_isTaken wsX2_isTaken) := goodIn_app (goodIn_of _ (by decide +kernel)) ggX2_firstFault_X2_isTaken
set_option maxRecDepth 20000 in
theorem ggX2_firstFault_X2_areThingsRead : GoodIn wsX2_firstFault wsX2_areThingsRead := goodIn_r _ [32, 18, 19, 20, 16, 21, 4, 3, 1, 2, 22, 23, 24, 25, 26, 27, 28, 33, 34, 35, 36, 5, 13, 14, 15, 17, 37, 38, 39, 40, 41, 42, 43, 44, 45, 46, 47, 9, 48, 11, 49, 50, 51, 52, 53, 54, 73, 74, 75, 76, 77, 85, 86, 87, 78, 79, 80, 81, 82, 83, 84] (by decide +kernel) (by decide +kernel)
set_option maxRecDepth 20000 in
theorem gX2_firstFault_X2_areThingsRead : GoodIn wsX2_firstFault (wsV RX2 38 RX2 yX2_areThingsRead wsX2_areThingsRead) := goodIn_app (goodIn_of _ (by decide +kernel)) ggX2_firstFault_X2_areThingsRead
set_option maxRecDepth 20000 in
theorem ggX2_firstFault_X2_areReferencesRead : GoodIn wsX2_firstFault wsX2_areReferencesRead := goodIn_r _ [58, 4, 3, 59, 60, 61, 16, 62, 5, 13, 14, 15, 17, 18, 19, 20, 21, 1, 2, 22, 23, 24, 25, 26, 27, 28, 41, 42, 43, 44, 45, 46, 47, 9, 48, 11, 63, 64, 65, 66, 12, 67, 68, 69, 70, 71, 72, 73, 74, 75, 76, 77, 85, 86, 87, 78, 79, 80, 81, 82, 83, 84] (by decide +kernel) (by decide +kernel)
set_option maxRecDepth 20000 in
theorem gX2_firstFault_X2_areReferencesRead : GoodIn wsX2_firstFault (wsV RX2 42 RX2 yX2_areReferencesRead wsX2_areReferencesRead) := goodIn_app (goodIn_of _ (by decide +kernel)) ggX2_firstFault_X2_areReferencesRead
theorem dX2_firstFault_0 : decode cX2_firstFault 0 = .ok (.aload_n 0, 1) := by decide +kernel
theorem dX2_firstFault_1 : decode cX2_firstFault 1 = .ok (.aload_n 1, 1) := by decide +kernel
theorem dX2_firstFault_2 : decode cX2_firstFault 2 = .ok (.putfield 9, 3) := by decide +kernel
theorem dX2_firstFault_5 : decode cX2_firstFault 5 = .ok (.aload_n 0, 1) := by decide +kernel
theorem dX2_firstFault_6 : decode cX2_firstFault 6 = .ok (.iload_n 2, 1) := by decide +kernel
theorem dX2_firstFault_7 : decode cX2_firstFault 7 = .ok (.putfield 15, 3) := by decide +kernel
theorem dX2_firstFault_10 : decode cX2_firstFault 10 = .ok (.aload_n 0, 1) := by decide +kernel
theorem dX2_firstFault_11 : decode cX2_firstFault 11 = .ok (.iload_n 3, 1) := by decide +kernel
theorem dX2_firstFault_12 : decode cX2_firstFault 12 = .ok (.putfield 19, 3) := by decide +kernel
theorem dX2_firstFault_15 : decode cX2_firstFault 15 = .ok (.aload_n 0, 1) := by decide +kernel
theorem dX2_firstFault_16 : decode cX2_firstFault 16 = .ok (.iconst 0, 1) := by decide +kernel
theorem dX2_firstFault_17 : decode cX2_firstFault 17 = .ok (.putfield 22, 3) := by decide +kernel
theorem dX2_firstFault_20 : decode cX2_firstFault 20 = .ok (.aload_n 0, 1) := by decide +kernel
theorem dX2_firstFault_21 : decode cX2_firstFault 21 = .ok (.getfield 25, 3) := by decide +kernel
theorem dX2_firstFault_24 : decode cX2_firstFault 24 = .ok (.invokevirtual 29, 3) := by decide +kernel
theorem dX2_firstFault_27 : decode cX2_firstFault 27 = .ok (.aload_n 0, 1) := by decide +kernel
theorem dX2_firstFault_28 : decode cX2_firstFault 28 = .ok (.bipush 111, 2) := by decide +kernel
theorem dX2_firstFault_30 : decode cX2_firstFault 30 = .ok (.invokevirtual 34, 3) := by decide +kernel
theorem dX2_firstFault_33 : decode cX2_firstFault 33 = .ok (.ifCond .eq 32, 3) := by decide +kernel
theorem dX2_firstFault_36 : decode cX2_firstFault 36 = .ok (.aload_n 0, 1) := by decide +kernel
theorem dX2_firstFault_37 : decode cX2_firstFault 37 = .ok (.invokevirtual 38, 3) := by decide +kernel
theorem dX2_firstFault_40 : decode cX2_firstFault 40 = .ok (.ifCond .eq 25, 3) := by decide +kernel
theorem dX2_firstFault_43 : decode cX2_firstFault 43 = .ok (.aload_n 0, 1) := by decide +kernel
theorem dX2_firstFault_44 : decode cX2_firstFault 44 = .ok (.invokevirtual 42, 3) := by decide +kernel
theorem dX2_firstFault_47 : decode cX2_firstFault 47 = .ok (.ifCond .eq 18, 3) := by decide +kernel
theorem dX2_firstFault_50 : decode cX2_firstFault 50 = .ok (.aload_n 0, 1) := by decide +kernel
theorem dX2_firstFault_51 : decode cX2_firstFault 51 = .ok (.getfield 22, 3) := by decide +kernel
theorem dX2_firstFault_54 : decode cX2_firstFault 54 = .ok (.aload_n 0, 1) := by decide +kernel
theorem dX2_firstFault_55 : decode cX2_firstFault 55 = .ok (.getfield 19, 3) := by decide +kernel
theorem dX2_firstFault_58 : decode cX2_firstFault 58 = .ok (.if_icmp .ne 7, 3) := by decide +kernel
theorem dX2_firstFault_61 : decode cX2_firstFault 61 = .ok (.iconst 1, 1) := by decide +kernel
theorem dX2_firstFault_62 : decode cX2_firstFault 62 = .ok (.goto 4, 3) := by decide +kernel
theorem dX2_firstFault_65 : decode cX2_firstFault 65 = .ok (.iconst 0, 1) := by decide +kernel
theorem dX2_firstFault_66 : decode cX2_firstFault 66 = .ok (.istore 4, 2) := by decide +kernel
theorem dX2_firstFault_68 : decode cX2_firstFault 68 = .ok (.iload 4, 2) := by decide +kernel
theorem dX2_firstFault_70 : decode cX2_firstFault 70 = .ok (.ifCond .eq 7, 3) := by decide +kernel
theorem dX2_firstFault_73 : decode cX2_firstFault 73 = .ok (.iconst (-1), 1) := by decide +kernel
theorem dX2_firstFault_74 : decode cX2_firstFault 74 = .ok (.goto 7, 3) := by decide +kernel
theorem dX2_firstFault_77 : decode cX2_firstFault 77 = .ok (.aload_n 0, 1) := by decide +kernel
theorem dX2_firstFault_78 : decode cX2_firstFault 78 = .ok (.getfield 22, 3) := by decide +kernel
theorem dX2_firstFault_81 : decode cX2_firstFault 81 = .ok (.ireturn, 1) := by decide +kernel
set_option maxRecDepth 20000 in
theorem ggX2_areThingsRead_X2_codeHere : GoodIn wsX2_areThingsRead wsX2_codeHere := goodIn_r _ [5, 6, 7, 8, 9, 10, 11, 12, 13, 14, 15, 16, 46, 47, 48, 49, 50, 51, 52, 53] (by decide +kernel) (by decide +kernel)
set_option maxRecDepth 20000 in
theorem gX2_areThingsRead_X2_codeHere : GoodIn wsX2_areThingsRead (wsV RX2 45 RX2 yX2_codeHere wsX2_codeHere) := goodIn_app (goodIn_of _ (by decide +kernel)) ggX2_areThingsRead_X2_codeHere
set_option maxRecDepth 20000 in
theorem ggX2_areThingsRead_X2_isThingRead : GoodIn wsX2_areThingsRead wsX2_isThingRead := goodIn_r _ [20, 6, 21, 22, 23, 24, 4, 25, 1, 2, 3, 5, 7, 8, 9, 10, 11, 12, 13, 14, 15, 16, 26, 27, 28, 29, 30, 31, 32, 33, 34, 35, 36, 37, 38, 39, 40, 41, 42, 43, 44, 45, 46, 47, 48, 49, 50, 51, 52, 53, 54, 55, 56, 57, 58, 59, 60] (by decide +kernel) (by decide +kernel)
set_option maxRecDepth 20000 in
theorem gX2_areThingsRead_X2_isThingRead : GoodIn wsX2_areThingsRead (wsV RX2 49 RX2 yX2_isThingRead wsX2_isThingRead) := goodIn_app (goodIn_of _ (by decide +kernel)) ggX2_areThingsRead_X2_isThingRead
theorem dX2_areThingsRead_0 : decode cX2_areThingsRead 0 = .ok (.iconst 0, 1) := by decide +kernel
theorem dX2_areThingsRead_1 : decode cX2_areThingsRead 1 = .ok (.istore_n 1, 1) := by decide +kernel
theorem dX2_areThingsRead_2 : decode cX2_areThingsRead 2 = .ok (.iload_n 1, 1) := by decide +kernel
theorem dX2_areThingsRead_3 : decode cX2_areThingsRead 3 = .ok (.bipush 6, 2) := by decide +kernel
theorem dX2_areThingsRead_5 : decode cX2_areThingsRead 5 = .ok (.if_icmp .ge 33, 3) := by decide +kernel
theorem dX2_areThingsRead_8 : decode cX2_areThingsRead 8 = .ok (.iload_n 1, 1) := by decide +kernel
theorem dX2_areThingsRead_9 : decode cX2_areThingsRead 9 = .ok (.ifCond .le 14, 3) := by decide +kernel
theorem dX2_areThingsRead_12 : decode cX2_areThingsRead 12 = .ok (.aload_n 0, 1) := by decide +kernel
theorem dX2_areThingsRead_13 : decode cX2_areThingsRead 13 = .ok (.invokevirtual 45, 3) := by decide +kernel
theorem dX2_areThingsRead_16 : decode cX2_areThingsRead 16 = .ok (.bipush 59, 2) := by decide +kernel
theorem dX2_areThingsRead_18 : decode cX2_areThingsRead 18 = .ok (.if_icmp .eq 5, 3) := by decide +kernel
theorem dX2_areThingsRead_21 : decode cX2_areThingsRead 21 = .ok (.iconst 1, 1) := by decide +kernel
theorem dX2_areThingsRead_22 : decode cX2_areThingsRead 22 = .ok (.ireturn, 1) := by decide +kernel
theorem dX2_areThingsRead_23 : decode cX2_areThingsRead 23 = .ok (.aload_n 0, 1) := by decide +kernel
theorem dX2_areThingsRead_24 : decode cX2_areThingsRead 24 = .ok (.invokevirtual 49, 3) := by decide +kernel
theorem dX2_areThingsRead_27 : decode cX2_areThingsRead 27 = .ok (.ifCond .ne 5, 3) := by decide +kernel
theorem dX2_areThingsRead_30 : decode cX2_areThingsRead 30 = .ok (.iconst 0, 1) := by decide +kernel
theorem dX2_areThingsRead_31 : decode cX2_areThingsRead 31 = .ok (.ireturn, 1) := by decide +kernel
theorem dX2_areThingsRead_32 : decode cX2_areThingsRead 32 = .ok (.iinc 1 1, 3) := by decide +kernel
theorem dX2_areThingsRead_35 : decode cX2_areThingsRead 35 = .ok (.goto (-33), 3) := by decide +kernel
theorem dX2_areThingsRead_38 : decode cX2_areThingsRead 38 = .ok (.iconst 1, 1) := by decide +kernel
theorem dX2_areThingsRead_39 : decode cX2_areThingsRead 39 = .ok (.ireturn, 1) := by decide +kernel
set_option maxRecDepth 20000 in
theorem ggX2_areReferencesRead_X2_isReferenceRead : GoodIn wsX2_areReferencesRead wsX2_isReferenceRead := goodIn_r _ [7, 1, 8, 9, 10, 11, 6, 12, 13, 14, 15, 16, 2, 17, 18, 19, 20, 21, 22, 23, 24, 25, 26, 27, 28, 29, 30, 31, 32, 33, 34, 35, 36, 37, 38, 39, 40, 41, 42, 43, 44, 45, 46, 47, 48, 49, 50, 51, 52, 53, 54, 55, 56, 57, 58, 59, 60, 61] (by decide +kernel) (by decide +kernel)
set_option maxRecDepth 20000 in
theorem gX2_areReferencesRead_X2_isReferenceRead : GoodIn wsX2_areReferencesRead (wsV RX2 52 RX2 yX2_isReferenceRead wsX2_isReferenceRead) := goodIn_app (goodIn_of _ (by decide +kernel)) ggX2_areReferencesRead_X2_isReferenceRead
theorem dX2_areReferencesRead_0 : decode cX2_areReferencesRead 0 = .ok (.iconst 0, 1) := by decide +kernel
theorem dX2_areReferencesRead_1 : decode cX2_areReferencesRead 1 = .ok (.istore_n 1, 1) := by decide +kernel
theorem dX2_areReferencesRead_2 : decode cX2_areReferencesRead 2 = .ok (.iload_n 1, 1) := by decide +kernel
theorem dX2_areReferencesRead_3 : decode cX2_areReferencesRead 3 = .ok (.bipush 12, 2) := by decide +kernel
theorem dX2_areReferencesRead_5 : decode cX2_areReferencesRead 5 = .ok (.if_icmp .ge 29, 3) := by decide +kernel
theorem dX2_areReferencesRead_8 : decode cX2_areReferencesRead 8 = .ok (.aload_n 0, 1) := by decide +kernel
theorem dX2_areReferencesRead_9 : decode cX2_areReferencesRead 9 = .ok (.getfield 22, 3) := by decide +kernel
theorem dX2_areReferencesRead_12 : decode cX2_areReferencesRead 12 = .ok (.aload_n 0, 1) := by decide +kernel
theorem dX2_areReferencesRead_13 : decode cX2_areReferencesRead 13 = .ok (.getfield 19, 3) := by decide +kernel
theorem dX2_areReferencesRead_16 : decode cX2_areReferencesRead 16 = .ok (.if_icmp .ge 18, 3) := by decide +kernel
theorem dX2_areReferencesRead_19 : decode cX2_areReferencesRead 19 = .ok (.aload_n 0, 1) := by decide +kernel
theorem dX2_areReferencesRead_20 : decode cX2_areReferencesRead 20 = .ok (.invokevirtual 52, 3) := by decide +kernel
theorem dX2_areReferencesRead_23 : decode cX2_areReferencesRead 23 = .ok (.ifCond .ne 5, 3) := by decide +kernel
theorem dX2_areReferencesRead_26 : decode cX2_areReferencesRead 26 = .ok (.iconst 0, 1) := by decide +kernel
theorem dX2_areReferencesRead_27 : decode cX2_areReferencesRead 27 = .ok (.ireturn, 1) := by decide +kernel
theorem dX2_areReferencesRead_28 : decode cX2_areReferencesRead 28 = .ok (.iinc 1 1, 3) := by decide +kernel
theorem dX2_areReferencesRead_31 : decode cX2_areReferencesRead 31 = .ok (.goto (-29), 3) := by decide +kernel
theorem dX2_areReferencesRead_34 : decode cX2_areReferencesRead 34 = .ok (.iconst 1, 1) := by decide +kernel
theorem dX2_areReferencesRead_35 : decode cX2_areReferencesRead 35 = .ok (.ireturn, 1) := by decide +kernel
set_option maxRecDepth 20000 in
theorem ggX2_isThingRead_X2_isTaken : GoodIn wsX2_isThingRead wsX2_isTaken := goodIn_r _ [7, 1, 8, 9, 10, 6, 11, 12, 13, 14, 15, 16, 17, 18, 19, 20, 21, 42, 43, 44, 45, 46, 47, 48, 49] (by decide +kernel) (by decide +kernel)
set_option maxRecDepth 20000 in
theorem gX2_isThingRead_X2_isTaken : GoodIn wsX2_isThingRead (wsV RX2 34 RX2 yX2_isTaken wsX2_isTaken) := goodIn_app (goodIn_of _ (by decide +kernel)) ggX2_isThingRead_X2_isTaken
set_option maxRecDepth 20000 in
theorem ggX2_isThingRead_X2_kindHere : GoodIn wsX2_isThingRead wsX2_kindHere := goodIn_r _ [25, 8, 9, 10, 6, 11, 1, 12, 13, 14, 15, 16, 17, 18, 19, 20, 21, 42, 43, 44, 45, 46, 47, 48, 49] (by decide +kernel) (by decide +kernel)
set_option maxRecDepth 20000 in
theorem gX2_isThingRead_X2_kindHere : GoodIn wsX2_isThingRead (wsV RX2 55 RX2 yX2_kindHere wsX2_kindHere) := goodIn_app (goodIn_of _ (by decide +kernel)) ggX2_isThingRead_X2_kindHere
set_option maxRecDepth 20000 in
theorem ggX2_isThingRead_X2_ownerHere : GoodIn wsX2_isThingRead wsX2_ownerHere := goodIn_r _ [29, 2, 8, 9, 10, 6, 11, 1, 12, 13, 14, 15, 16, 17, 18, 19, 20, 21, 30, 31, 32, 33, 34, 35, 42, 43, 44, 45, 46, 47, 48, 49, 50, 51, 52, 53, 54, 55, 56] (by decide +kernel) (by decide +kernel)
set_option maxRecDepth 20000 in
theorem gX2_isThingRead_X2_ownerHere : GoodIn wsX2_isThingRead (wsV RX2 58 RX2 yX2_ownerHere wsX2_ownerHere) := goodIn_app (goodIn_of _ (by decide +kernel)) ggX2_isThingRead_X2_ownerHere
set_option maxRecDepth 20000 in
theorem ggX2_isThingRead_X3_addThing : GoodIn wsX2_isThingRead wsX3_addThing := goodIn_r _ [39, 35, 40, 41, 50, 51, 52, 53, 54, 55, 56] (by decide +kernel) (by decide +kernel)
set_option maxRecDepth 20000 in
theorem gX2_isThingRead_X3_addThing : GoodIn wsX2_isThingRead (wsV RX2 61 RX3 yX3_addThing wsX3_addThing) := goodIn_app (goodIn_of _ (by decide +kernel)) ggX2_isThingRead_X3_addThing
theorem dX2_isThingRead_0 : decode cX2_isThingRead 0 = .ok (.aload_n 0, 1) := by decide +kernel
theorem dX2_isThingRead_1 : decode cX2_isThingRead 1 = .ok (.bipush 59, 2) := by decide +kernel
theorem dX2_isThingRead_3 : decode cX2_isThingRead 3 = .ok (.invokevirtual 34, 3) := by decide +kernel
theorem dX2_isThingRead_6 : decode cX2_isThingRead 6 = .ok (.ifCond .ne 5, 3) := by decide +kernel
theorem dX2_isThingRead_9 : decode cX2_isThingRead 9 = .ok (.iconst 0, 1) := by decide +kernel
theorem dX2_isThingRead_10 : decode cX2_isThingRead 10 = .ok (.ireturn, 1) := by decide +kernel
theorem dX2_isThingRead_11 : decode cX2_isThingRead 11 = .ok (.aload_n 0, 1) := by decide +kernel
theorem dX2_isThingRead_12 : decode cX2_isThingRead 12 = .ok (.invokevirtual 55, 3) := by decide +kernel
theorem dX2_isThingRead_15 : decode cX2_isThingRead 15 = .ok (.istore_n 1, 1) := by decide +kernel
theorem dX2_isThingRead_16 : decode cX2_isThingRead 16 = .ok (.iload_n 1, 1) := by decide +kernel
theorem dX2_isThingRead_17 : decode cX2_isThingRead 17 = .ok (.bipush (-9), 2) := by decide +kernel
theorem dX2_isThingRead_19 : decode cX2_isThingRead 19 = .ok (.if_icmp .ne 5, 3) := by decide +kernel
theorem dX2_isThingRead_22 : decode cX2_isThingRead 22 = .ok (.iconst 0, 1) := by decide +kernel
theorem dX2_isThingRead_23 : decode cX2_isThingRead 23 = .ok (.ireturn, 1) := by decide +kernel
theorem dX2_isThingRead_24 : decode cX2_isThingRead 24 = .ok (.aload_n 0, 1) := by decide +kernel
theorem dX2_isThingRead_25 : decode cX2_isThingRead 25 = .ok (.dup, 1) := by decide +kernel
theorem dX2_isThingRead_26 : decode cX2_isThingRead 26 = .ok (.getfield 22, 3) := by decide +kernel
theorem dX2_isThingRead_29 : decode cX2_isThingRead 29 = .ok (.iconst 1, 1) := by decide +kernel
theorem dX2_isThingRead_30 : decode cX2_isThingRead 30 = .ok (.iadd, 1) := by decide +kernel
theorem dX2_isThingRead_31 : decode cX2_isThingRead 31 = .ok (.putfield 22, 3) := by decide +kernel
theorem dX2_isThingRead_34 : decode cX2_isThingRead 34 = .ok (.aload_n 0, 1) := by decide +kernel
theorem dX2_isThingRead_35 : decode cX2_isThingRead 35 = .ok (.invokevirtual 58, 3) := by decide +kernel
theorem dX2_isThingRead_38 : decode cX2_isThingRead 38 = .ok (.istore_n 2, 1) := by decide +kernel
theorem dX2_isThingRead_39 : decode cX2_isThingRead 39 = .ok (.iload_n 2, 1) := by decide +kernel
theorem dX2_isThingRead_40 : decode cX2_isThingRead 40 = .ok (.bipush (-9), 2) := by decide +kernel
theorem dX2_isThingRead_42 : decode cX2_isThingRead 42 = .ok (.if_icmp .ne 5, 3) := by decide +kernel
theorem dX2_isThingRead_45 : decode cX2_isThingRead 45 = .ok (.iconst 0, 1) := by decide +kernel
theorem dX2_isThingRead_46 : decode cX2_isThingRead 46 = .ok (.ireturn, 1) := by decide +kernel
theorem dX2_isThingRead_47 : decode cX2_isThingRead 47 = .ok (.aload_n 0, 1) := by decide +kernel
theorem dX2_isThingRead_48 : decode cX2_isThingRead 48 = .ok (.dup, 1) := by decide +kernel
theorem dX2_isThingRead_49 : decode cX2_isThingRead 49 = .ok (.getfield 22, 3) := by decide +kernel
theorem dX2_isThingRead_52 : decode cX2_isThingRead 52 = .ok (.iconst 1, 1) := by decide +kernel
theorem dX2_isThingRead_53 : decode cX2_isThingRead 53 = .ok (.iadd, 1) := by decide +kernel
theorem dX2_isThingRead_54 : decode cX2_isThingRead 54 = .ok (.putfield 22, 3) := by decide +kernel
theorem dX2_isThingRead_57 : decode cX2_isThingRead 57 = .ok (.aload_n 0, 1) := by decide +kernel
theorem dX2_isThingRead_58 : decode cX2_isThingRead 58 = .ok (.getfield 25, 3) := by decide +kernel
theorem dX2_isThingRead_61 : decode cX2_isThingRead 61 = .ok (.iload_n 1, 1) := by decide +kernel
theorem dX2_isThingRead_62 : decode cX2_isThingRead 62 = .ok (.iload_n 2, 1) := by decide +kernel
theorem dX2_isThingRead_63 : decode cX2_isThingRead 63 = .ok (.invokevirtual 61, 3) := by decide +kernel
theorem dX2_isThingRead_66 : decode cX2_isThingRead 66 = .ok (.iconst 1, 1) := by decide +kernel
theorem dX2_isThingRead_67 : decode cX2_isThingRead 67 = .ok (.ireturn, 1) := by decide +kernel
set_option maxRecDepth 20000 in
theorem ggX2_isReferenceRead_X2_isTaken : GoodIn wsX2_isReferenceRead wsX2_isTaken := goodIn_r _ [7, 1, 8, 9, 10, 6, 11, 12, 13, 14, 15, 16, 17, 18, 19, 20, 21, 43, 44, 45, 46, 47, 48, 49, 50] (by decide +kernel) (by decide +kernel)
set_option maxRecDepth 20000 in
theorem gX2_isReferenceRead_X2_isTaken : GoodIn wsX2_isReferenceRead (wsV RX2 34 RX2 yX2_isTaken wsX2_isTaken) := goodIn_app (goodIn_of _ (by decide +kernel)) ggX2_isReferenceRead_X2_isTaken
set_option maxRecDepth 20000 in
theorem ggX2_isReferenceRead_X2_ownerHere : GoodIn wsX2_isReferenceRead wsX2_ownerHere := goodIn_r _ [25, 2, 8, 9, 10, 6, 11, 1, 12, 13, 14, 15, 16, 17, 18, 19, 20, 21, 26, 27, 28, 29, 30, 31, 43, 44, 45, 46, 47, 48, 49, 50, 51, 52, 53, 54, 55, 56, 57] (by decide +kernel) (by decide +kernel)
set_option maxRecDepth 20000 in
theorem gX2_isReferenceRead_X2_ownerHere : GoodIn wsX2_isReferenceRead (wsV RX2 58 RX2 yX2_ownerHere wsX2_ownerHere) := goodIn_app (goodIn_of _ (by decide +kernel)) ggX2_isReferenceRead_X2_ownerHere
set_option maxRecDepth 20000 in
theorem ggX2_isReferenceRead_X2_codeHere : GoodIn wsX2_isReferenceRead wsX2_codeHere := goodIn_r _ [11, 1, 12, 13, 14, 15, 16, 17, 18, 19, 20, 21, 43, 44, 45, 46, 47, 48, 49, 50] (by decide +kernel) (by decide +kernel)
set_option maxRecDepth 20000 in
theorem gX2_isReferenceRead_X2_codeHere : GoodIn wsX2_isReferenceRead (wsV RX2 45 RX2 yX2_codeHere wsX2_codeHere) := goodIn_app (goodIn_of _ (by decide +kernel)) ggX2_isReferenceRead_X2_codeHere
set_option maxRecDepth 20000 in
theorem ggX2_isReferenceRead_X3_isThing : GoodIn wsX2_isReferenceRead wsX3_isThing := goodIn_r _ [30, 31, 51, 52, 53, 54, 55, 56, 57] (by decide +kernel) (by decide +kernel)
set_option maxRecDepth 20000 in
theorem gX2_isReferenceRead_X3_isThing : GoodIn wsX2_isReferenceRead (wsV RX2 65 RX3 yX3_isThing wsX3_isThing) := goodIn_app (goodIn_of _ (by decide +kernel)) ggX2_isReferenceRead_X3_isThing
set_option maxRecDepth 20000 in
theorem ggX2_isReferenceRead_X3_find : GoodIn wsX2_isReferenceRead wsX3_find := goodIn_r _ [35, 36, 37, 38, 51, 52, 53, 54, 55, 56, 57] (by decide +kernel) (by decide +kernel)
set_option maxRecDepth 20000 in
theorem gX2_isReferenceRead_X3_find : GoodIn wsX2_isReferenceRead (wsV RX2 68 RX3 yX3_find wsX3_find) := goodIn_app (goodIn_of _ (by decide +kernel)) ggX2_isReferenceRead_X3_find
set_option maxRecDepth 20000 in
theorem ggX2_isReferenceRead_X3_addReference : GoodIn wsX2_isReferenceRead wsX3_addReference := goodIn_r _ [42, 36, 37, 38, 51, 52, 53, 54, 55, 56, 57] (by decide +kernel) (by decide +kernel)
set_option maxRecDepth 20000 in
theorem gX2_isReferenceRead_X3_addReference : GoodIn wsX2_isReferenceRead (wsV RX2 72 RX3 yX3_addReference wsX3_addReference) := goodIn_app (goodIn_of _ (by decide +kernel)) ggX2_isReferenceRead_X3_addReference
theorem dX2_isReferenceRead_0 : decode cX2_isReferenceRead 0 = .ok (.aload_n 0, 1) := by decide +kernel
theorem dX2_isReferenceRead_1 : decode cX2_isReferenceRead 1 = .ok (.bipush 44, 2) := by decide +kernel
theorem dX2_isReferenceRead_3 : decode cX2_isReferenceRead 3 = .ok (.invokevirtual 34, 3) := by decide +kernel
theorem dX2_isReferenceRead_6 : decode cX2_isReferenceRead 6 = .ok (.ifCond .ne 5, 3) := by decide +kernel
theorem dX2_isReferenceRead_9 : decode cX2_isReferenceRead 9 = .ok (.iconst 0, 1) := by decide +kernel
theorem dX2_isReferenceRead_10 : decode cX2_isReferenceRead 10 = .ok (.ireturn, 1) := by decide +kernel
theorem dX2_isReferenceRead_11 : decode cX2_isReferenceRead 11 = .ok (.aload_n 0, 1) := by decide +kernel
theorem dX2_isReferenceRead_12 : decode cX2_isReferenceRead 12 = .ok (.invokevirtual 58, 3) := by decide +kernel
theorem dX2_isReferenceRead_15 : decode cX2_isReferenceRead 15 = .ok (.istore_n 1, 1) := by decide +kernel
theorem dX2_isReferenceRead_16 : decode cX2_isReferenceRead 16 = .ok (.iload_n 1, 1) := by decide +kernel
theorem dX2_isReferenceRead_17 : decode cX2_isReferenceRead 17 = .ok (.bipush (-9), 2) := by decide +kernel
theorem dX2_isReferenceRead_19 : decode cX2_isReferenceRead 19 = .ok (.if_icmp .ne 5, 3) := by decide +kernel
theorem dX2_isReferenceRead_22 : decode cX2_isReferenceRead 22 = .ok (.iconst 0, 1) := by decide +kernel
theorem dX2_isReferenceRead_23 : decode cX2_isReferenceRead 23 = .ok (.ireturn, 1) := by decide +kernel
theorem dX2_isReferenceRead_24 : decode cX2_isReferenceRead 24 = .ok (.aload_n 0, 1) := by decide +kernel
theorem dX2_isReferenceRead_25 : decode cX2_isReferenceRead 25 = .ok (.dup, 1) := by decide +kernel
theorem dX2_isReferenceRead_26 : decode cX2_isReferenceRead 26 = .ok (.getfield 22, 3) := by decide +kernel
theorem dX2_isReferenceRead_29 : decode cX2_isReferenceRead 29 = .ok (.iconst 1, 1) := by decide +kernel
theorem dX2_isReferenceRead_30 : decode cX2_isReferenceRead 30 = .ok (.iadd, 1) := by decide +kernel
theorem dX2_isReferenceRead_31 : decode cX2_isReferenceRead 31 = .ok (.putfield 22, 3) := by decide +kernel
theorem dX2_isReferenceRead_34 : decode cX2_isReferenceRead 34 = .ok (.aload_n 0, 1) := by decide +kernel
theorem dX2_isReferenceRead_35 : decode cX2_isReferenceRead 35 = .ok (.invokevirtual 45, 3) := by decide +kernel
theorem dX2_isReferenceRead_38 : decode cX2_isReferenceRead 38 = .ok (.bipush 48, 2) := by decide +kernel
theorem dX2_isReferenceRead_40 : decode cX2_isReferenceRead 40 = .ok (.isub, 1) := by decide +kernel
theorem dX2_isReferenceRead_41 : decode cX2_isReferenceRead 41 = .ok (.istore_n 2, 1) := by decide +kernel
theorem dX2_isReferenceRead_42 : decode cX2_isReferenceRead 42 = .ok (.aload_n 0, 1) := by decide +kernel
theorem dX2_isReferenceRead_43 : decode cX2_isReferenceRead 43 = .ok (.getfield 25, 3) := by decide +kernel
theorem dX2_isReferenceRead_46 : decode cX2_isReferenceRead 46 = .ok (.iload_n 2, 1) := by decide +kernel
theorem dX2_isReferenceRead_47 : decode cX2_isReferenceRead 47 = .ok (.invokevirtual 65, 3) := by decide +kernel
theorem dX2_isReferenceRead_50 : decode cX2_isReferenceRead 50 = .ok (.ifCond .eq 22, 3) := by decide +kernel
theorem dX2_isReferenceRead_53 : decode cX2_isReferenceRead 53 = .ok (.iload_n 2, 1) := by decide +kernel
theorem dX2_isReferenceRead_54 : decode cX2_isReferenceRead 54 = .ok (.iload_n 1, 1) := by decide +kernel
theorem dX2_isReferenceRead_55 : decode cX2_isReferenceRead 55 = .ok (.if_icmp .eq 17, 3) := by decide +kernel
theorem dX2_isReferenceRead_58 : decode cX2_isReferenceRead 58 = .ok (.aload_n 0, 1) := by decide +kernel
theorem dX2_isReferenceRead_59 : decode cX2_isReferenceRead 59 = .ok (.getfield 25, 3) := by decide +kernel
theorem dX2_isReferenceRead_62 : decode cX2_isReferenceRead 62 = .ok (.iload_n 1, 1) := by decide +kernel
theorem dX2_isReferenceRead_63 : decode cX2_isReferenceRead 63 = .ok (.iload_n 2, 1) := by decide +kernel
theorem dX2_isReferenceRead_64 : decode cX2_isReferenceRead 64 = .ok (.invokevirtual 68, 3) := by decide +kernel
theorem dX2_isReferenceRead_67 : decode cX2_isReferenceRead 67 = .ok (.bipush (-9), 2) := by decide +kernel
theorem dX2_isReferenceRead_69 : decode cX2_isReferenceRead 69 = .ok (.if_icmp .eq 5, 3) := by decide +kernel
theorem dX2_isReferenceRead_72 : decode cX2_isReferenceRead 72 = .ok (.iconst 0, 1) := by decide +kernel
theorem dX2_isReferenceRead_73 : decode cX2_isReferenceRead 73 = .ok (.ireturn, 1) := by decide +kernel
theorem dX2_isReferenceRead_74 : decode cX2_isReferenceRead 74 = .ok (.aload_n 0, 1) := by decide +kernel
theorem dX2_isReferenceRead_75 : decode cX2_isReferenceRead 75 = .ok (.dup, 1) := by decide +kernel
theorem dX2_isReferenceRead_76 : decode cX2_isReferenceRead 76 = .ok (.getfield 22, 3) := by decide +kernel
theorem dX2_isReferenceRead_79 : decode cX2_isReferenceRead 79 = .ok (.iconst 1, 1) := by decide +kernel
theorem dX2_isReferenceRead_80 : decode cX2_isReferenceRead 80 = .ok (.iadd, 1) := by decide +kernel
theorem dX2_isReferenceRead_81 : decode cX2_isReferenceRead 81 = .ok (.putfield 22, 3) := by decide +kernel
theorem dX2_isReferenceRead_84 : decode cX2_isReferenceRead 84 = .ok (.aload_n 0, 1) := by decide +kernel
theorem dX2_isReferenceRead_85 : decode cX2_isReferenceRead 85 = .ok (.getfield 25, 3) := by decide +kernel
theorem dX2_isReferenceRead_88 : decode cX2_isReferenceRead 88 = .ok (.iload_n 1, 1) := by decide +kernel
theorem dX2_isReferenceRead_89 : decode cX2_isReferenceRead 89 = .ok (.iload_n 2, 1) := by decide +kernel
theorem dX2_isReferenceRead_90 : decode cX2_isReferenceRead 90 = .ok (.invokevirtual 72, 3) := by decide +kernel
theorem dX2_isReferenceRead_93 : decode cX2_isReferenceRead 93 = .ok (.iconst 1, 1) := by decide +kernel
theorem dX2_isReferenceRead_94 : decode cX2_isReferenceRead 94 = .ok (.ireturn, 1) := by decide +kernel
set_option maxRecDepth 20000 in
theorem ggX2_isTaken_X2_codeHere : GoodIn wsX2_isTaken wsX2_codeHere := goodIn_r _ [6, 1, 7, 8, 9, 10, 11, 12, 13, 14, 15, 16, 17, 18, 19, 20, 21, 22, 23, 24] (by decide +kernel) (by decide +kernel)
set_option maxRecDepth 20000 in
theorem gX2_isTaken_X2_codeHere : GoodIn wsX2_isTaken (wsV RX2 45 RX2 yX2_codeHere wsX2_codeHere) := goodIn_app (goodIn_of _ (by decide +kernel)) ggX2_isTaken_X2_codeHere
theorem dX2_isTaken_0 : decode cX2_isTaken 0 = .ok (.aload_n 0, 1) := by decide +kernel
theorem dX2_isTaken_1 : decode cX2_isTaken 1 = .ok (.invokevirtual 45, 3) := by decide +kernel
theorem dX2_isTaken_4 : decode cX2_isTaken 4 = .ok (.iload_n 1, 1) := by decide +kernel
theorem dX2_isTaken_5 : decode cX2_isTaken 5 = .ok (.if_icmp .eq 5, 3) := by decide +kernel
theorem dX2_isTaken_8 : decode cX2_isTaken 8 = .ok (.iconst 0, 1) := by decide +kernel
theorem dX2_isTaken_9 : decode cX2_isTaken 9 = .ok (.ireturn, 1) := by decide +kernel
theorem dX2_isTaken_10 : decode cX2_isTaken 10 = .ok (.aload_n 0, 1) := by decide +kernel
theorem dX2_isTaken_11 : decode cX2_isTaken 11 = .ok (.dup, 1) := by decide +kernel
theorem dX2_isTaken_12 : decode cX2_isTaken 12 = .ok (.getfield 22, 3) := by decide +kernel
theorem dX2_isTaken_15 : decode cX2_isTaken 15 = .ok (.iconst 1, 1) := by decide +kernel
theorem dX2_isTaken_16 : decode cX2_isTaken 16 = .ok (.iadd, 1) := by decide +kernel
theorem dX2_isTaken_17 : decode cX2_isTaken 17 = .ok (.putfield 22, 3) := by decide +kernel
theorem dX2_isTaken_20 : decode cX2_isTaken 20 = .ok (.iconst 1, 1) := by decide +kernel
theorem dX2_isTaken_21 : decode cX2_isTaken 21 = .ok (.ireturn, 1) := by decide +kernel
set_option maxRecDepth 20000 in
theorem ggX2_codeHere_X1_valueAt : GoodIn wsX2_codeHere wsX1_valueAt := goodIn_r _ [9, 10, 11, 17, 18, 19] (by decide +kernel) (by decide +kernel)
set_option maxRecDepth 20000 in
theorem gX2_codeHere_X1_valueAt : GoodIn wsX2_codeHere (wsV RX2 75 RX1 yX1_valueAt wsX1_valueAt) := goodIn_app (goodIn_of _ (by decide +kernel)) ggX2_codeHere_X1_valueAt
theorem dX2_codeHere_0 : decode cX2_codeHere 0 = .ok (.aload_n 0, 1) := by decide +kernel
theorem dX2_codeHere_1 : decode cX2_codeHere 1 = .ok (.getfield 22, 3) := by decide +kernel
theorem dX2_codeHere_4 : decode cX2_codeHere 4 = .ok (.aload_n 0, 1) := by decide +kernel
theorem dX2_codeHere_5 : decode cX2_codeHere 5 = .ok (.getfield 19, 3) := by decide +kernel
theorem dX2_codeHere_8 : decode cX2_codeHere 8 = .ok (.if_icmp .ge 22, 3) := by decide +kernel
theorem dX2_codeHere_11 : decode cX2_codeHere 11 = .ok (.aload_n 0, 1) := by decide +kernel
theorem dX2_codeHere_12 : decode cX2_codeHere 12 = .ok (.getfield 9, 3) := by decide +kernel
theorem dX2_codeHere_15 : decode cX2_codeHere 15 = .ok (.aload_n 0, 1) := by decide +kernel
theorem dX2_codeHere_16 : decode cX2_codeHere 16 = .ok (.getfield 15, 3) := by decide +kernel
theorem dX2_codeHere_19 : decode cX2_codeHere 19 = .ok (.aload_n 0, 1) := by decide +kernel
theorem dX2_codeHere_20 : decode cX2_codeHere 20 = .ok (.getfield 22, 3) := by decide +kernel
theorem dX2_codeHere_23 : decode cX2_codeHere 23 = .ok (.iadd, 1) := by decide +kernel
theorem dX2_codeHere_24 : decode cX2_codeHere 24 = .ok (.invokevirtual 75, 3) := by decide +kernel
theorem dX2_codeHere_27 : decode cX2_codeHere 27 = .ok (.goto 4, 3) := by decide +kernel
theorem dX2_codeHere_30 : decode cX2_codeHere 30 = .ok (.iconst (-1), 1) := by decide +kernel
theorem dX2_codeHere_31 : decode cX2_codeHere 31 = .ok (.ireturn, 1) := by decide +kernel
set_option maxRecDepth 20000 in
theorem ggX2_kindHere_X2_codeHere : GoodIn wsX2_kindHere wsX2_codeHere := goodIn_r _ [5, 6, 7, 8, 9, 10, 11, 12, 13, 14, 15, 16, 17, 18, 19, 20, 21, 22, 23, 24] (by decide +kernel) (by decide +kernel)
set_option maxRecDepth 20000 in
theorem gX2_kindHere_X2_codeHere : GoodIn wsX2_kindHere (wsV RX2 45 RX2 yX2_codeHere wsX2_codeHere) := goodIn_app (goodIn_of _ (by decide +kernel)) ggX2_kindHere_X2_codeHere
theorem dX2_kindHere_0 : decode cX2_kindHere 0 = .ok (.aload_n 0, 1) := by decide +kernel
theorem dX2_kindHere_1 : decode cX2_kindHere 1 = .ok (.invokevirtual 45, 3) := by decide +kernel
theorem dX2_kindHere_4 : decode cX2_kindHere 4 = .ok (.lookupswitch 42 #[(100, 40), (103, 38), (112, 36)], 36) := by decide +kernel
theorem dX2_kindHere_40 : decode cX2_kindHere 40 = .ok (.iconst 0, 1) := by decide +kernel
theorem dX2_kindHere_41 : decode cX2_kindHere 41 = .ok (.ireturn, 1) := by decide +kernel
theorem dX2_kindHere_42 : decode cX2_kindHere 42 = .ok (.iconst 1, 1) := by decide +kernel
theorem dX2_kindHere_43 : decode cX2_kindHere 43 = .ok (.ireturn, 1) := by decide +kernel
theorem dX2_kindHere_44 : decode cX2_kindHere 44 = .ok (.iconst 2, 1) := by decide +kernel
theorem dX2_kindHere_45 : decode cX2_kindHere 45 = .ok (.ireturn, 1) := by decide +kernel
theorem dX2_kindHere_46 : decode cX2_kindHere 46 = .ok (.bipush (-9), 2) := by decide +kernel
theorem dX2_kindHere_48 : decode cX2_kindHere 48 = .ok (.ireturn, 1) := by decide +kernel
set_option maxRecDepth 20000 in
theorem ggX2_ownerHere_X2_codeHere : GoodIn wsX2_ownerHere wsX2_codeHere := goodIn_r _ [6, 7, 8, 9, 10, 11, 12, 13, 14, 15, 16, 17, 24, 25, 26, 27, 28, 29, 30, 31] (by decide +kernel) (by decide +kernel)
set_option maxRecDepth 20000 in
theorem gX2_ownerHere_X2_codeHere : GoodIn wsX2_ownerHere (wsV RX2 45 RX2 yX2_codeHere wsX2_codeHere) := goodIn_app (goodIn_of _ (by decide +kernel)) ggX2_ownerHere_X2_codeHere
set_option maxRecDepth 20000 in
theorem ggX2_ownerHere_X3_isThing : GoodIn wsX2_ownerHere wsX3_isThing := goodIn_r _ [22, 23, 32, 33, 34, 35, 36, 37, 38] (by decide +kernel) (by decide +kernel)
set_option maxRecDepth 20000 in
theorem gX2_ownerHere_X3_isThing : GoodIn wsX2_ownerHere (wsV RX2 65 RX3 yX3_isThing wsX3_isThing) := goodIn_app (goodIn_of _ (by decide +kernel)) ggX2_ownerHere_X3_isThing
theorem dX2_ownerHere_0 : decode cX2_ownerHere 0 = .ok (.aload_n 0, 1) := by decide +kernel
theorem dX2_ownerHere_1 : decode cX2_ownerHere 1 = .ok (.invokevirtual 45, 3) := by decide +kernel
theorem dX2_ownerHere_4 : decode cX2_ownerHere 4 = .ok (.istore_n 1, 1) := by decide +kernel
theorem dX2_ownerHere_5 : decode cX2_ownerHere 5 = .ok (.iload_n 1, 1) := by decide +kernel
theorem dX2_ownerHere_6 : decode cX2_ownerHere 6 = .ok (.bipush 119, 2) := by decide +kernel
theorem dX2_ownerHere_8 : decode cX2_ownerHere 8 = .ok (.if_icmp .ne 6, 3) := by decide +kernel
theorem dX2_ownerHere_11 : decode cX2_ownerHere 11 = .ok (.bipush 6, 2) := by decide +kernel
theorem dX2_ownerHere_13 : decode cX2_ownerHere 13 = .ok (.ireturn, 1) := by decide +kernel
theorem dX2_ownerHere_14 : decode cX2_ownerHere 14 = .ok (.aload_n 0, 1) := by decide +kernel
theorem dX2_ownerHere_15 : decode cX2_ownerHere 15 = .ok (.getfield 25, 3) := by decide +kernel
theorem dX2_ownerHere_18 : decode cX2_ownerHere 18 = .ok (.iload_n 1, 1) := by decide +kernel
theorem dX2_ownerHere_19 : decode cX2_ownerHere 19 = .ok (.bipush 48, 2) := by decide +kernel
theorem dX2_ownerHere_21 : decode cX2_ownerHere 21 = .ok (.isub, 1) := by decide +kernel
theorem dX2_ownerHere_22 : decode cX2_ownerHere 22 = .ok (.invokevirtual 65, 3) := by decide +kernel
theorem dX2_ownerHere_25 : decode cX2_ownerHere 25 = .ok (.ifCond .eq 10, 3) := by decide +kernel
theorem dX2_ownerHere_28 : decode cX2_ownerHere 28 = .ok (.iload_n 1, 1) := by decide +kernel
theorem dX2_ownerHere_29 : decode cX2_ownerHere 29 = .ok (.bipush 48, 2) := by decide +kernel
theorem dX2_ownerHere_31 : decode cX2_ownerHere 31 = .ok (.isub, 1) := by decide +kernel
theorem dX2_ownerHere_32 : decode cX2_ownerHere 32 = .ok (.goto 5, 3) := by decide +kernel
theorem dX2_ownerHere_35 : decode cX2_ownerHere 35 = .ok (.bipush (-9), 2) := by decide +kernel
theorem dX2_ownerHere_37 : decode cX2_ownerHere 37 = .ok (.ireturn, 1) := by decide +kernel
theorem dX3_init_0 : decode cX3_init 0 = .ok (.aload_n 0, 1) := by decide +kernel
theorem dX3_init_1 : decode cX3_init 1 = .ok (.invokespecial 3, 3) := by decide +kernel
theorem dX3_init_4 : decode cX3_init 4 = .ok (.aload_n 0, 1) := by decide +kernel
theorem dX3_init_5 : decode cX3_init 5 = .ok (.iconst 0, 1) := by decide +kernel
theorem dX3_init_6 : decode cX3_init 6 = .ok (.putfield 9, 3) := by decide +kernel
theorem dX3_init_9 : decode cX3_init 9 = .ok (.aload_n 0, 1) := by decide +kernel
theorem dX3_init_10 : decode cX3_init 10 = .ok (.iconst 0, 1) := by decide +kernel
theorem dX3_init_11 : decode cX3_init 11 = .ok (.putfield 15, 3) := by decide +kernel
theorem dX3_init_14 : decode cX3_init 14 = .ok (.aload_n 0, 1) := by decide +kernel
theorem dX3_init_15 : decode cX3_init 15 = .ok (.bipush 6, 2) := by decide +kernel
theorem dX3_init_17 : decode cX3_init 17 = .ok (.newarray .int, 2) := by decide +kernel
theorem dX3_init_19 : decode cX3_init 19 = .ok (.putfield 18, 3) := by decide +kernel
theorem dX3_init_22 : decode cX3_init 22 = .ok (.aload_n 0, 1) := by decide +kernel
theorem dX3_init_23 : decode cX3_init 23 = .ok (.bipush 6, 2) := by decide +kernel
theorem dX3_init_25 : decode cX3_init 25 = .ok (.newarray .int, 2) := by decide +kernel
theorem dX3_init_27 : decode cX3_init 27 = .ok (.putfield 22, 3) := by decide +kernel
theorem dX3_init_30 : decode cX3_init 30 = .ok (.aload_n 0, 1) := by decide +kernel
theorem dX3_init_31 : decode cX3_init 31 = .ok (.bipush 12, 2) := by decide +kernel
theorem dX3_init_33 : decode cX3_init 33 = .ok (.newarray .int, 2) := by decide +kernel
theorem dX3_init_35 : decode cX3_init 35 = .ok (.putfield 25, 3) := by decide +kernel
theorem dX3_init_38 : decode cX3_init 38 = .ok (.aload_n 0, 1) := by decide +kernel
theorem dX3_init_39 : decode cX3_init 39 = .ok (.bipush 12, 2) := by decide +kernel
theorem dX3_init_41 : decode cX3_init 41 = .ok (.newarray .int, 2) := by decide +kernel
theorem dX3_init_43 : decode cX3_init 43 = .ok (.putfield 28, 3) := by decide +kernel
theorem dX3_init_46 : decode cX3_init 46 = .ok (.aload_n 0, 1) := by decide +kernel
theorem dX3_init_47 : decode cX3_init 47 = .ok (.bipush 7, 2) := by decide +kernel
theorem dX3_init_49 : decode cX3_init 49 = .ok (.newarray .int, 2) := by decide +kernel
theorem dX3_init_51 : decode cX3_init 51 = .ok (.putfield 31, 3) := by decide +kernel
theorem dX3_init_54 : decode cX3_init 54 = .ok (.return_, 1) := by decide +kernel
theorem dX3_become_0 : decode cX3_become 0 = .ok (.aload_n 0, 1) := by decide +kernel
theorem dX3_become_1 : decode cX3_become 1 = .ok (.aload_n 1, 1) := by decide +kernel
theorem dX3_become_2 : decode cX3_become 2 = .ok (.getfield 9, 3) := by decide +kernel
theorem dX3_become_5 : decode cX3_become 5 = .ok (.putfield 9, 3) := by decide +kernel
theorem dX3_become_8 : decode cX3_become 8 = .ok (.aload_n 0, 1) := by decide +kernel
theorem dX3_become_9 : decode cX3_become 9 = .ok (.aload_n 1, 1) := by decide +kernel
theorem dX3_become_10 : decode cX3_become 10 = .ok (.getfield 15, 3) := by decide +kernel
theorem dX3_become_13 : decode cX3_become 13 = .ok (.putfield 15, 3) := by decide +kernel
theorem dX3_become_16 : decode cX3_become 16 = .ok (.aload_n 1, 1) := by decide +kernel
theorem dX3_become_17 : decode cX3_become 17 = .ok (.getfield 18, 3) := by decide +kernel
theorem dX3_become_20 : decode cX3_become 20 = .ok (.iconst 0, 1) := by decide +kernel
theorem dX3_become_21 : decode cX3_become 21 = .ok (.aload_n 0, 1) := by decide +kernel
theorem dX3_become_22 : decode cX3_become 22 = .ok (.getfield 18, 3) := by decide +kernel
theorem dX3_become_25 : decode cX3_become 25 = .ok (.iconst 0, 1) := by decide +kernel
theorem dX3_become_26 : decode cX3_become 26 = .ok (.bipush 6, 2) := by decide +kernel
theorem dX3_become_28 : decode cX3_become 28 = .ok (.invokestatic 34, 3) := by decide +kernel
theorem dX3_become_31 : decode cX3_become 31 = .ok (.aload_n 1, 1) := by decide +kernel
theorem dX3_become_32 : decode cX3_become 32 = .ok (.getfield 22, 3) := by decide +kernel
theorem dX3_become_35 : decode cX3_become 35 = .ok (.iconst 0, 1) := by decide +kernel
theorem dX3_become_36 : decode cX3_become 36 = .ok (.aload_n 0, 1) := by decide +kernel
theorem dX3_become_37 : decode cX3_become 37 = .ok (.getfield 22, 3) := by decide +kernel
theorem dX3_become_40 : decode cX3_become 40 = .ok (.iconst 0, 1) := by decide +kernel
theorem dX3_become_41 : decode cX3_become 41 = .ok (.bipush 6, 2) := by decide +kernel
theorem dX3_become_43 : decode cX3_become 43 = .ok (.invokestatic 34, 3) := by decide +kernel
theorem dX3_become_46 : decode cX3_become 46 = .ok (.aload_n 1, 1) := by decide +kernel
theorem dX3_become_47 : decode cX3_become 47 = .ok (.getfield 25, 3) := by decide +kernel
theorem dX3_become_50 : decode cX3_become 50 = .ok (.iconst 0, 1) := by decide +kernel
theorem dX3_become_51 : decode cX3_become 51 = .ok (.aload_n 0, 1) := by decide +kernel
theorem dX3_become_52 : decode cX3_become 52 = .ok (.getfield 25, 3) := by decide +kernel
theorem dX3_become_55 : decode cX3_become 55 = .ok (.iconst 0, 1) := by decide +kernel
theorem dX3_become_56 : decode cX3_become 56 = .ok (.bipush 12, 2) := by decide +kernel
theorem dX3_become_58 : decode cX3_become 58 = .ok (.invokestatic 34, 3) := by decide +kernel
theorem dX3_become_61 : decode cX3_become 61 = .ok (.aload_n 1, 1) := by decide +kernel
theorem dX3_become_62 : decode cX3_become 62 = .ok (.getfield 28, 3) := by decide +kernel
theorem dX3_become_65 : decode cX3_become 65 = .ok (.iconst 0, 1) := by decide +kernel
theorem dX3_become_66 : decode cX3_become 66 = .ok (.aload_n 0, 1) := by decide +kernel
theorem dX3_become_67 : decode cX3_become 67 = .ok (.getfield 28, 3) := by decide +kernel
theorem dX3_become_70 : decode cX3_become 70 = .ok (.iconst 0, 1) := by decide +kernel
theorem dX3_become_71 : decode cX3_become 71 = .ok (.bipush 12, 2) := by decide +kernel
theorem dX3_become_73 : decode cX3_become 73 = .ok (.invokestatic 34, 3) := by decide +kernel
theorem dX3_become_76 : decode cX3_become 76 = .ok (.return_, 1) := by decide +kernel
theorem dX3_clear_0 : decode cX3_clear 0 = .ok (.aload_n 0, 1) := by decide +kernel
theorem dX3_clear_1 : decode cX3_clear 1 = .ok (.iconst 0, 1) := by decide +kernel
theorem dX3_clear_2 : decode cX3_clear 2 = .ok (.putfield 9, 3) := by decide +kernel
theorem dX3_clear_5 : decode cX3_clear 5 = .ok (.aload_n 0, 1) := by decide +kernel
theorem dX3_clear_6 : decode cX3_clear 6 = .ok (.iconst 0, 1) := by decide +kernel
theorem dX3_clear_7 : decode cX3_clear 7 = .ok (.putfield 15, 3) := by decide +kernel
theorem dX3_clear_10 : decode cX3_clear 10 = .ok (.return_, 1) := by decide +kernel
theorem dX3_size_0 : decode cX3_size 0 = .ok (.aload_n 0, 1) := by decide +kernel
theorem dX3_size_1 : decode cX3_size 1 = .ok (.getfield 9, 3) := by decide +kernel
theorem dX3_size_4 : decode cX3_size 4 = .ok (.ireturn, 1) := by decide +kernel
theorem dX3_howManyReferences_0 : decode cX3_howManyReferences 0 = .ok (.aload_n 0, 1) := by decide +kernel
theorem dX3_howManyReferences_1 : decode cX3_howManyReferences 1 = .ok (.getfield 15, 3) := by decide +kernel
theorem dX3_howManyReferences_4 : decode cX3_howManyReferences 4 = .ok (.ireturn, 1) := by decide +kernel
theorem dX3_isThing_0 : decode cX3_isThing 0 = .ok (.iload_n 1, 1) := by decide +kernel
theorem dX3_isThing_1 : decode cX3_isThing 1 = .ok (.ifCond .lt 15, 3) := by decide +kernel
theorem dX3_isThing_4 : decode cX3_isThing 4 = .ok (.iload_n 1, 1) := by decide +kernel
theorem dX3_isThing_5 : decode cX3_isThing 5 = .ok (.aload_n 0, 1) := by decide +kernel
theorem dX3_isThing_6 : decode cX3_isThing 6 = .ok (.getfield 9, 3) := by decide +kernel
theorem dX3_isThing_9 : decode cX3_isThing 9 = .ok (.if_icmp .ge 7, 3) := by decide +kernel
theorem dX3_isThing_12 : decode cX3_isThing 12 = .ok (.iconst 1, 1) := by decide +kernel
theorem dX3_isThing_13 : decode cX3_isThing 13 = .ok (.goto 4, 3) := by decide +kernel
theorem dX3_isThing_16 : decode cX3_isThing 16 = .ok (.iconst 0, 1) := by decide +kernel
theorem dX3_isThing_17 : decode cX3_isThing 17 = .ok (.ireturn, 1) := by decide +kernel
set_option maxRecDepth 20000 in
theorem ggX3_mayOwn_X3_isThing : GoodIn wsX3_mayOwn wsX3_isThing := goodIn_r _ [6, 1, 7, 8, 9, 10, 11, 12, 13] (by decide +kernel) (by decide +kernel)
set_option maxRecDepth 20000 in
theorem gX3_mayOwn_X3_isThing : GoodIn wsX3_mayOwn (wsV RX3 40 RX3 yX3_isThing wsX3_isThing) := goodIn_app (goodIn_of _ (by decide +kernel)) ggX3_mayOwn_X3_isThing
theorem dX3_mayOwn_0 : decode cX3_mayOwn 0 = .ok (.aload_n 0, 1) := by decide +kernel
theorem dX3_mayOwn_1 : decode cX3_mayOwn 1 = .ok (.iload_n 1, 1) := by decide +kernel
theorem dX3_mayOwn_2 : decode cX3_mayOwn 2 = .ok (.invokevirtual 40, 3) := by decide +kernel
theorem dX3_mayOwn_5 : decode cX3_mayOwn 5 = .ok (.ifCond .ne 16, 3) := by decide +kernel
theorem dX3_mayOwn_8 : decode cX3_mayOwn 8 = .ok (.iload_n 1, 1) := by decide +kernel
theorem dX3_mayOwn_9 : decode cX3_mayOwn 9 = .ok (.bipush 6, 2) := by decide +kernel
theorem dX3_mayOwn_11 : decode cX3_mayOwn 11 = .ok (.if_icmp .ne 14, 3) := by decide +kernel
theorem dX3_mayOwn_14 : decode cX3_mayOwn 14 = .ok (.aload_n 0, 1) := by decide +kernel
theorem dX3_mayOwn_15 : decode cX3_mayOwn 15 = .ok (.getfield 9, 3) := by decide +kernel
theorem dX3_mayOwn_18 : decode cX3_mayOwn 18 = .ok (.ifCond .le 7, 3) := by decide +kernel
theorem dX3_mayOwn_21 : decode cX3_mayOwn 21 = .ok (.iconst 1, 1) := by decide +kernel
theorem dX3_mayOwn_22 : decode cX3_mayOwn 22 = .ok (.goto 4, 3) := by decide +kernel
theorem dX3_mayOwn_25 : decode cX3_mayOwn 25 = .ok (.iconst 0, 1) := by decide +kernel
theorem dX3_mayOwn_26 : decode cX3_mayOwn 26 = .ok (.ireturn, 1) := by decide +kernel
set_option maxRecDepth 20000 in
theorem ggX3_kindOf_X3_isThing : GoodIn wsX3_kindOf wsX3_isThing := goodIn_r _ [6, 7, 8, 9, 10, 11, 12, 13, 14] (by decide +kernel) (by decide +kernel)
set_option maxRecDepth 20000 in
theorem gX3_kindOf_X3_isThing : GoodIn wsX3_kindOf (wsV RX3 40 RX3 yX3_isThing wsX3_isThing) := goodIn_app (goodIn_of _ (by decide +kernel)) ggX3_kindOf_X3_isThing
theorem dX3_kindOf_0 : decode cX3_kindOf 0 = .ok (.aload_n 0, 1) := by decide +kernel
theorem dX3_kindOf_1 : decode cX3_kindOf 1 = .ok (.iload_n 1, 1) := by decide +kernel
theorem dX3_kindOf_2 : decode cX3_kindOf 2 = .ok (.invokevirtual 40, 3) := by decide +kernel
theorem dX3_kindOf_5 : decode cX3_kindOf 5 = .ok (.ifCond .eq 12, 3) := by decide +kernel
theorem dX3_kindOf_8 : decode cX3_kindOf 8 = .ok (.aload_n 0, 1) := by decide +kernel
theorem dX3_kindOf_9 : decode cX3_kindOf 9 = .ok (.getfield 18, 3) := by decide +kernel
theorem dX3_kindOf_12 : decode cX3_kindOf 12 = .ok (.iload_n 1, 1) := by decide +kernel
theorem dX3_kindOf_13 : decode cX3_kindOf 13 = .ok (.iaload, 1) := by decide +kernel
theorem dX3_kindOf_14 : decode cX3_kindOf 14 = .ok (.goto 4, 3) := by decide +kernel
theorem dX3_kindOf_17 : decode cX3_kindOf 17 = .ok (.iconst 0, 1) := by decide +kernel
theorem dX3_kindOf_18 : decode cX3_kindOf 18 = .ok (.ireturn, 1) := by decide +kernel
set_option maxRecDepth 20000 in
theorem ggX3_ownerOf_X3_isThing : GoodIn wsX3_ownerOf wsX3_isThing := goodIn_r _ [6, 7, 8, 9, 10, 11, 12, 13, 14] (by decide +kernel) (by decide +kernel)
set_option maxRecDepth 20000 in
theorem gX3_ownerOf_X3_isThing : GoodIn wsX3_ownerOf (wsV RX3 40 RX3 yX3_isThing wsX3_isThing) := goodIn_app (goodIn_of _ (by decide +kernel)) ggX3_ownerOf_X3_isThing
theorem dX3_ownerOf_0 : decode cX3_ownerOf 0 = .ok (.aload_n 0, 1) := by decide +kernel
theorem dX3_ownerOf_1 : decode cX3_ownerOf 1 = .ok (.iload_n 1, 1) := by decide +kernel
theorem dX3_ownerOf_2 : decode cX3_ownerOf 2 = .ok (.invokevirtual 40, 3) := by decide +kernel
theorem dX3_ownerOf_5 : decode cX3_ownerOf 5 = .ok (.ifCond .eq 12, 3) := by decide +kernel
theorem dX3_ownerOf_8 : decode cX3_ownerOf 8 = .ok (.aload_n 0, 1) := by decide +kernel
theorem dX3_ownerOf_9 : decode cX3_ownerOf 9 = .ok (.getfield 22, 3) := by decide +kernel
theorem dX3_ownerOf_12 : decode cX3_ownerOf 12 = .ok (.iload_n 1, 1) := by decide +kernel
theorem dX3_ownerOf_13 : decode cX3_ownerOf 13 = .ok (.iaload, 1) := by decide +kernel
theorem dX3_ownerOf_14 : decode cX3_ownerOf 14 = .ok (.goto 5, 3) := by decide +kernel
theorem dX3_ownerOf_17 : decode cX3_ownerOf 17 = .ok (.bipush 6, 2) := by decide +kernel
theorem dX3_ownerOf_19 : decode cX3_ownerOf 19 = .ok (.ireturn, 1) := by decide +kernel
theorem dX3_addThing_0 : decode cX3_addThing 0 = .ok (.aload_n 0, 1) := by decide +kernel
theorem dX3_addThing_1 : decode cX3_addThing 1 = .ok (.getfield 9, 3) := by decide +kernel
theorem dX3_addThing_4 : decode cX3_addThing 4 = .ok (.bipush 6, 2) := by decide +kernel
theorem dX3_addThing_6 : decode cX3_addThing 6 = .ok (.if_icmp .ge 33, 3) := by decide +kernel
theorem dX3_addThing_9 : decode cX3_addThing 9 = .ok (.aload_n 0, 1) := by decide +kernel
theorem dX3_addThing_10 : decode cX3_addThing 10 = .ok (.getfield 18, 3) := by decide +kernel
theorem dX3_addThing_13 : decode cX3_addThing 13 = .ok (.aload_n 0, 1) := by decide +kernel
theorem dX3_addThing_14 : decode cX3_addThing 14 = .ok (.getfield 9, 3) := by decide +kernel
theorem dX3_addThing_17 : decode cX3_addThing 17 = .ok (.iload_n 1, 1) := by decide +kernel
theorem dX3_addThing_18 : decode cX3_addThing 18 = .ok (.iastore, 1) := by decide +kernel
theorem dX3_addThing_19 : decode cX3_addThing 19 = .ok (.aload_n 0, 1) := by decide +kernel
theorem dX3_addThing_20 : decode cX3_addThing 20 = .ok (.getfield 22, 3) := by decide +kernel
theorem dX3_addThing_23 : decode cX3_addThing 23 = .ok (.aload_n 0, 1) := by decide +kernel
theorem dX3_addThing_24 : decode cX3_addThing 24 = .ok (.getfield 9, 3) := by decide +kernel
theorem dX3_addThing_27 : decode cX3_addThing 27 = .ok (.iload_n 2, 1) := by decide +kernel
theorem dX3_addThing_28 : decode cX3_addThing 28 = .ok (.iastore, 1) := by decide +kernel
theorem dX3_addThing_29 : decode cX3_addThing 29 = .ok (.aload_n 0, 1) := by decide +kernel
theorem dX3_addThing_30 : decode cX3_addThing 30 = .ok (.dup, 1) := by decide +kernel
theorem dX3_addThing_31 : decode cX3_addThing 31 = .ok (.getfield 9, 3) := by decide +kernel
theorem dX3_addThing_34 : decode cX3_addThing 34 = .ok (.iconst 1, 1) := by decide +kernel
theorem dX3_addThing_35 : decode cX3_addThing 35 = .ok (.iadd, 1) := by decide +kernel
theorem dX3_addThing_36 : decode cX3_addThing 36 = .ok (.putfield 9, 3) := by decide +kernel
theorem dX3_addThing_39 : decode cX3_addThing 39 = .ok (.return_, 1) := by decide +kernel
theorem dX3_addReference_0 : decode cX3_addReference 0 = .ok (.aload_n 0, 1) := by decide +kernel
theorem dX3_addReference_1 : decode cX3_addReference 1 = .ok (.getfield 15, 3) := by decide +kernel
theorem dX3_addReference_4 : decode cX3_addReference 4 = .ok (.bipush 12, 2) := by decide +kernel
theorem dX3_addReference_6 : decode cX3_addReference 6 = .ok (.if_icmp .ge 33, 3) := by decide +kernel
theorem dX3_addReference_9 : decode cX3_addReference 9 = .ok (.aload_n 0, 1) := by decide +kernel
theorem dX3_addReference_10 : decode cX3_addReference 10 = .ok (.getfield 25, 3) := by decide +kernel
theorem dX3_addReference_13 : decode cX3_addReference 13 = .ok (.aload_n 0, 1) := by decide +kernel
theorem dX3_addReference_14 : decode cX3_addReference 14 = .ok (.getfield 15, 3) := by decide +kernel
theorem dX3_addReference_17 : decode cX3_addReference 17 = .ok (.iload_n 1, 1) := by decide +kernel
theorem dX3_addReference_18 : decode cX3_addReference 18 = .ok (.iastore, 1) := by decide +kernel
theorem dX3_addReference_19 : decode cX3_addReference 19 = .ok (.aload_n 0, 1) := by decide +kernel
theorem dX3_addReference_20 : decode cX3_addReference 20 = .ok (.getfield 28, 3) := by decide +kernel
theorem dX3_addReference_23 : decode cX3_addReference 23 = .ok (.aload_n 0, 1) := by decide +kernel
theorem dX3_addReference_24 : decode cX3_addReference 24 = .ok (.getfield 15, 3) := by decide +kernel
theorem dX3_addReference_27 : decode cX3_addReference 27 = .ok (.iload_n 2, 1) := by decide +kernel
theorem dX3_addReference_28 : decode cX3_addReference 28 = .ok (.iastore, 1) := by decide +kernel
theorem dX3_addReference_29 : decode cX3_addReference 29 = .ok (.aload_n 0, 1) := by decide +kernel
theorem dX3_addReference_30 : decode cX3_addReference 30 = .ok (.dup, 1) := by decide +kernel
theorem dX3_addReference_31 : decode cX3_addReference 31 = .ok (.getfield 15, 3) := by decide +kernel
theorem dX3_addReference_34 : decode cX3_addReference 34 = .ok (.iconst 1, 1) := by decide +kernel
theorem dX3_addReference_35 : decode cX3_addReference 35 = .ok (.iadd, 1) := by decide +kernel
theorem dX3_addReference_36 : decode cX3_addReference 36 = .ok (.putfield 15, 3) := by decide +kernel
theorem dX3_addReference_39 : decode cX3_addReference 39 = .ok (.return_, 1) := by decide +kernel
theorem dX3_cut_0 : decode cX3_cut 0 = .ok (.iload_n 1, 1) := by decide +kernel
theorem dX3_cut_1 : decode cX3_cut 1 = .ok (.ifCond .lt 11, 3) := by decide +kernel
theorem dX3_cut_4 : decode cX3_cut 4 = .ok (.iload_n 1, 1) := by decide +kernel
theorem dX3_cut_5 : decode cX3_cut 5 = .ok (.aload_n 0, 1) := by decide +kernel
theorem dX3_cut_6 : decode cX3_cut 6 = .ok (.getfield 15, 3) := by decide +kernel
theorem dX3_cut_9 : decode cX3_cut 9 = .ok (.if_icmp .lt 4, 3) := by decide +kernel
theorem dX3_cut_12 : decode cX3_cut 12 = .ok (.return_, 1) := by decide +kernel
theorem dX3_cut_13 : decode cX3_cut 13 = .ok (.aload_n 0, 1) := by decide +kernel
theorem dX3_cut_14 : decode cX3_cut 14 = .ok (.dup, 1) := by decide +kernel
theorem dX3_cut_15 : decode cX3_cut 15 = .ok (.getfield 15, 3) := by decide +kernel
theorem dX3_cut_18 : decode cX3_cut 18 = .ok (.iconst 1, 1) := by decide +kernel
theorem dX3_cut_19 : decode cX3_cut 19 = .ok (.isub, 1) := by decide +kernel
theorem dX3_cut_20 : decode cX3_cut 20 = .ok (.putfield 15, 3) := by decide +kernel
theorem dX3_cut_23 : decode cX3_cut 23 = .ok (.iload_n 1, 1) := by decide +kernel
theorem dX3_cut_24 : decode cX3_cut 24 = .ok (.istore_n 2, 1) := by decide +kernel
theorem dX3_cut_25 : decode cX3_cut 25 = .ok (.iload_n 2, 1) := by decide +kernel
theorem dX3_cut_26 : decode cX3_cut 26 = .ok (.aload_n 0, 1) := by decide +kernel
theorem dX3_cut_27 : decode cX3_cut 27 = .ok (.getfield 15, 3) := by decide +kernel
theorem dX3_cut_30 : decode cX3_cut 30 = .ok (.if_icmp .ge 37, 3) := by decide +kernel
theorem dX3_cut_33 : decode cX3_cut 33 = .ok (.aload_n 0, 1) := by decide +kernel
theorem dX3_cut_34 : decode cX3_cut 34 = .ok (.getfield 25, 3) := by decide +kernel
theorem dX3_cut_37 : decode cX3_cut 37 = .ok (.iload_n 2, 1) := by decide +kernel
theorem dX3_cut_38 : decode cX3_cut 38 = .ok (.aload_n 0, 1) := by decide +kernel
theorem dX3_cut_39 : decode cX3_cut 39 = .ok (.getfield 25, 3) := by decide +kernel
theorem dX3_cut_42 : decode cX3_cut 42 = .ok (.iload_n 2, 1) := by decide +kernel
theorem dX3_cut_43 : decode cX3_cut 43 = .ok (.iconst 1, 1) := by decide +kernel
theorem dX3_cut_44 : decode cX3_cut 44 = .ok (.iadd, 1) := by decide +kernel
theorem dX3_cut_45 : decode cX3_cut 45 = .ok (.iaload, 1) := by decide +kernel
theorem dX3_cut_46 : decode cX3_cut 46 = .ok (.iastore, 1) := by decide +kernel
theorem dX3_cut_47 : decode cX3_cut 47 = .ok (.aload_n 0, 1) := by decide +kernel
theorem dX3_cut_48 : decode cX3_cut 48 = .ok (.getfield 28, 3) := by decide +kernel
theorem dX3_cut_51 : decode cX3_cut 51 = .ok (.iload_n 2, 1) := by decide +kernel
theorem dX3_cut_52 : decode cX3_cut 52 = .ok (.aload_n 0, 1) := by decide +kernel
theorem dX3_cut_53 : decode cX3_cut 53 = .ok (.getfield 28, 3) := by decide +kernel
theorem dX3_cut_56 : decode cX3_cut 56 = .ok (.iload_n 2, 1) := by decide +kernel
theorem dX3_cut_57 : decode cX3_cut 57 = .ok (.iconst 1, 1) := by decide +kernel
theorem dX3_cut_58 : decode cX3_cut 58 = .ok (.iadd, 1) := by decide +kernel
theorem dX3_cut_59 : decode cX3_cut 59 = .ok (.iaload, 1) := by decide +kernel
theorem dX3_cut_60 : decode cX3_cut 60 = .ok (.iastore, 1) := by decide +kernel
theorem dX3_cut_61 : decode cX3_cut 61 = .ok (.iinc 2 1, 3) := by decide +kernel
theorem dX3_cut_64 : decode cX3_cut 64 = .ok (.goto (-39), 3) := by decide +kernel
theorem dX3_cut_67 : decode cX3_cut 67 = .ok (.return_, 1) := by decide +kernel
theorem dX3_find_0 : decode cX3_find 0 = .ok (.iconst 0, 1) := by decide +kernel
theorem dX3_find_1 : decode cX3_find 1 = .ok (.istore_n 3, 1) := by decide +kernel
theorem dX3_find_2 : decode cX3_find 2 = .ok (.iload_n 3, 1) := by decide +kernel
theorem dX3_find_3 : decode cX3_find 3 = .ok (.aload_n 0, 1) := by decide +kernel
theorem dX3_find_4 : decode cX3_find 4 = .ok (.getfield 15, 3) := by decide +kernel
theorem dX3_find_7 : decode cX3_find 7 = .ok (.if_icmp .ge 31, 3) := by decide +kernel
theorem dX3_find_10 : decode cX3_find 10 = .ok (.aload_n 0, 1) := by decide +kernel
theorem dX3_find_11 : decode cX3_find 11 = .ok (.getfield 25, 3) := by decide +kernel
theorem dX3_find_14 : decode cX3_find 14 = .ok (.iload_n 3, 1) := by decide +kernel
theorem dX3_find_15 : decode cX3_find 15 = .ok (.iaload, 1) := by decide +kernel
theorem dX3_find_16 : decode cX3_find 16 = .ok (.iload_n 1, 1) := by decide +kernel
theorem dX3_find_17 : decode cX3_find 17 = .ok (.if_icmp .ne 15, 3) := by decide +kernel
theorem dX3_find_20 : decode cX3_find 20 = .ok (.aload_n 0, 1) := by decide +kernel
theorem dX3_find_21 : decode cX3_find 21 = .ok (.getfield 28, 3) := by decide +kernel
theorem dX3_find_24 : decode cX3_find 24 = .ok (.iload_n 3, 1) := by decide +kernel
theorem dX3_find_25 : decode cX3_find 25 = .ok (.iaload, 1) := by decide +kernel
theorem dX3_find_26 : decode cX3_find 26 = .ok (.iload_n 2, 1) := by decide +kernel
theorem dX3_find_27 : decode cX3_find 27 = .ok (.if_icmp .ne 5, 3) := by decide +kernel
theorem dX3_find_30 : decode cX3_find 30 = .ok (.iload_n 3, 1) := by decide +kernel
theorem dX3_find_31 : decode cX3_find 31 = .ok (.ireturn, 1) := by decide +kernel
theorem dX3_find_32 : decode cX3_find 32 = .ok (.iinc 3 1, 3) := by decide +kernel
theorem dX3_find_35 : decode cX3_find 35 = .ok (.goto (-33), 3) := by decide +kernel
theorem dX3_find_38 : decode cX3_find 38 = .ok (.bipush (-9), 2) := by decide +kernel
theorem dX3_find_40 : decode cX3_find 40 = .ok (.ireturn, 1) := by decide +kernel
set_option maxRecDepth 20000 in
theorem ggX3_makeOrCut_X3_mayOwn : GoodIn wsX3_makeOrCut wsX3_mayOwn := goodIn_r _ [6, 7, 8, 9, 10, 5, 11, 26, 27, 28, 29, 30, 31, 32] (by decide +kernel) (by decide +kernel)
set_option maxRecDepth 20000 in
theorem gX3_makeOrCut_X3_mayOwn : GoodIn wsX3_makeOrCut (wsV RX3 44 RX3 yX3_mayOwn wsX3_mayOwn) := goodIn_app (goodIn_of _ (by decide +kernel)) ggX3_makeOrCut_X3_mayOwn
set_option maxRecDepth 20000 in
theorem ggX3_makeOrCut_X3_isThing : GoodIn wsX3_makeOrCut wsX3_isThing := goodIn_r _ [11, 7, 26, 27, 28, 29, 30, 31, 32] (by decide +kernel) (by decide +kernel)
set_option maxRecDepth 20000 in
theorem gX3_makeOrCut_X3_isThing : GoodIn wsX3_makeOrCut (wsV RX3 40 RX3 yX3_isThing wsX3_isThing) := goodIn_app (goodIn_of _ (by decide +kernel)) ggX3_makeOrCut_X3_isThing
set_option maxRecDepth 20000 in
theorem ggX3_makeOrCut_X3_find : GoodIn wsX3_makeOrCut wsX3_find := goodIn_r _ [15, 1, 16, 17, 26, 27, 28, 29, 30, 31, 32] (by decide +kernel) (by decide +kernel)
set_option maxRecDepth 20000 in
theorem gX3_makeOrCut_X3_find : GoodIn wsX3_makeOrCut (wsV RX3 47 RX3 yX3_find wsX3_find) := goodIn_app (goodIn_of _ (by decide +kernel)) ggX3_makeOrCut_X3_find
set_option maxRecDepth 20000 in
theorem ggX3_makeOrCut_X3_cut : GoodIn wsX3_makeOrCut wsX3_cut := goodIn_r _ [21, 1, 16, 17, 26, 27, 28, 29, 30, 31, 32] (by decide +kernel) (by decide +kernel)
set_option maxRecDepth 20000 in
theorem gX3_makeOrCut_X3_cut : GoodIn wsX3_makeOrCut (wsV RX3 51 RX3 yX3_cut wsX3_cut) := goodIn_app (goodIn_of _ (by decide +kernel)) ggX3_makeOrCut_X3_cut
set_option maxRecDepth 20000 in
theorem ggX3_makeOrCut_X3_addReference : GoodIn wsX3_makeOrCut wsX3_addReference := goodIn_r _ [25, 1, 16, 17, 26, 27, 28, 29, 30, 31, 32] (by decide +kernel) (by decide +kernel)
set_option maxRecDepth 20000 in
theorem gX3_makeOrCut_X3_addReference : GoodIn wsX3_makeOrCut (wsV RX3 55 RX3 yX3_addReference wsX3_addReference) := goodIn_app (goodIn_of _ (by decide +kernel)) ggX3_makeOrCut_X3_addReference
theorem dX3_makeOrCut_0 : decode cX3_makeOrCut 0 = .ok (.aload_n 0, 1) := by decide +kernel
theorem dX3_makeOrCut_1 : decode cX3_makeOrCut 1 = .ok (.iload_n 1, 1) := by decide +kernel
theorem dX3_makeOrCut_2 : decode cX3_makeOrCut 2 = .ok (.invokevirtual 44, 3) := by decide +kernel
theorem dX3_makeOrCut_5 : decode cX3_makeOrCut 5 = .ok (.ifCond .eq 16, 3) := by decide +kernel
theorem dX3_makeOrCut_8 : decode cX3_makeOrCut 8 = .ok (.aload_n 0, 1) := by decide +kernel
theorem dX3_makeOrCut_9 : decode cX3_makeOrCut 9 = .ok (.iload_n 2, 1) := by decide +kernel
theorem dX3_makeOrCut_10 : decode cX3_makeOrCut 10 = .ok (.invokevirtual 40, 3) := by decide +kernel
theorem dX3_makeOrCut_13 : decode cX3_makeOrCut 13 = .ok (.ifCond .eq 8, 3) := by decide +kernel
theorem dX3_makeOrCut_16 : decode cX3_makeOrCut 16 = .ok (.iload_n 1, 1) := by decide +kernel
theorem dX3_makeOrCut_17 : decode cX3_makeOrCut 17 = .ok (.iload_n 2, 1) := by decide +kernel
theorem dX3_makeOrCut_18 : decode cX3_makeOrCut 18 = .ok (.if_icmp .ne 5, 3) := by decide +kernel
theorem dX3_makeOrCut_21 : decode cX3_makeOrCut 21 = .ok (.iconst (-1), 1) := by decide +kernel
theorem dX3_makeOrCut_22 : decode cX3_makeOrCut 22 = .ok (.ireturn, 1) := by decide +kernel
theorem dX3_makeOrCut_23 : decode cX3_makeOrCut 23 = .ok (.aload_n 0, 1) := by decide +kernel
theorem dX3_makeOrCut_24 : decode cX3_makeOrCut 24 = .ok (.iload_n 1, 1) := by decide +kernel
theorem dX3_makeOrCut_25 : decode cX3_makeOrCut 25 = .ok (.iload_n 2, 1) := by decide +kernel
theorem dX3_makeOrCut_26 : decode cX3_makeOrCut 26 = .ok (.invokevirtual 47, 3) := by decide +kernel
theorem dX3_makeOrCut_29 : decode cX3_makeOrCut 29 = .ok (.istore_n 3, 1) := by decide +kernel
theorem dX3_makeOrCut_30 : decode cX3_makeOrCut 30 = .ok (.iload_n 3, 1) := by decide +kernel
theorem dX3_makeOrCut_31 : decode cX3_makeOrCut 31 = .ok (.bipush (-9), 2) := by decide +kernel
theorem dX3_makeOrCut_33 : decode cX3_makeOrCut 33 = .ok (.if_icmp .eq 11, 3) := by decide +kernel
theorem dX3_makeOrCut_36 : decode cX3_makeOrCut 36 = .ok (.aload_n 0, 1) := by decide +kernel
theorem dX3_makeOrCut_37 : decode cX3_makeOrCut 37 = .ok (.iload_n 3, 1) := by decide +kernel
theorem dX3_makeOrCut_38 : decode cX3_makeOrCut 38 = .ok (.invokevirtual 51, 3) := by decide +kernel
theorem dX3_makeOrCut_41 : decode cX3_makeOrCut 41 = .ok (.goto 21, 3) := by decide +kernel
theorem dX3_makeOrCut_44 : decode cX3_makeOrCut 44 = .ok (.aload_n 0, 1) := by decide +kernel
theorem dX3_makeOrCut_45 : decode cX3_makeOrCut 45 = .ok (.getfield 15, 3) := by decide +kernel
theorem dX3_makeOrCut_48 : decode cX3_makeOrCut 48 = .ok (.bipush 12, 2) := by decide +kernel
theorem dX3_makeOrCut_50 : decode cX3_makeOrCut 50 = .ok (.if_icmp .ne 6, 3) := by decide +kernel
theorem dX3_makeOrCut_53 : decode cX3_makeOrCut 53 = .ok (.bipush (-4), 2) := by decide +kernel
theorem dX3_makeOrCut_55 : decode cX3_makeOrCut 55 = .ok (.ireturn, 1) := by decide +kernel
theorem dX3_makeOrCut_56 : decode cX3_makeOrCut 56 = .ok (.aload_n 0, 1) := by decide +kernel
theorem dX3_makeOrCut_57 : decode cX3_makeOrCut 57 = .ok (.iload_n 1, 1) := by decide +kernel
theorem dX3_makeOrCut_58 : decode cX3_makeOrCut 58 = .ok (.iload_n 2, 1) := by decide +kernel
theorem dX3_makeOrCut_59 : decode cX3_makeOrCut 59 = .ok (.invokevirtual 55, 3) := by decide +kernel
theorem dX3_makeOrCut_62 : decode cX3_makeOrCut 62 = .ok (.aload_n 0, 1) := by decide +kernel
theorem dX3_makeOrCut_63 : decode cX3_makeOrCut 63 = .ok (.getfield 15, 3) := by decide +kernel
theorem dX3_makeOrCut_66 : decode cX3_makeOrCut 66 = .ok (.ireturn, 1) := by decide +kernel
set_option maxRecDepth 20000 in
theorem ggX3_changeOwner_X3_isThing : GoodIn wsX3_changeOwner wsX3_isThing := goodIn_r _ [6, 7, 16, 17, 18, 19, 20, 21, 22] (by decide +kernel) (by decide +kernel)
set_option maxRecDepth 20000 in
theorem gX3_changeOwner_X3_isThing : GoodIn wsX3_changeOwner (wsV RX3 40 RX3 yX3_isThing wsX3_isThing) := goodIn_app (goodIn_of _ (by decide +kernel)) ggX3_changeOwner_X3_isThing
set_option maxRecDepth 20000 in
theorem ggX3_changeOwner_X3_mayOwn : GoodIn wsX3_changeOwner wsX3_mayOwn := goodIn_r _ [11, 7, 2, 3, 4, 5, 6, 16, 17, 18, 19, 20, 21, 22] (by decide +kernel) (by decide +kernel)
set_option maxRecDepth 20000 in
theorem gX3_changeOwner_X3_mayOwn : GoodIn wsX3_changeOwner (wsV RX3 44 RX3 yX3_mayOwn wsX3_mayOwn) := goodIn_app (goodIn_of _ (by decide +kernel)) ggX3_changeOwner_X3_mayOwn
set_option maxRecDepth 20000 in
theorem ggX3_changeOwner_X3_isUnder : GoodIn wsX3_changeOwner wsX3_isUnder := goodIn_r _ [15, 1, 2, 3, 4, 5, 6, 7, 16, 17, 18, 19, 20, 21, 22] (by decide +kernel) (by decide +kernel)
set_option maxRecDepth 20000 in
theorem gX3_changeOwner_X3_isUnder : GoodIn wsX3_changeOwner (wsV RX3 59 RX3 yX3_isUnder wsX3_isUnder) := goodIn_app (goodIn_of _ (by decide +kernel)) ggX3_changeOwner_X3_isUnder
theorem dX3_changeOwner_0 : decode cX3_changeOwner 0 = .ok (.aload_n 0, 1) := by decide +kernel
theorem dX3_changeOwner_1 : decode cX3_changeOwner 1 = .ok (.iload_n 1, 1) := by decide +kernel
theorem dX3_changeOwner_2 : decode cX3_changeOwner 2 = .ok (.invokevirtual 40, 3) := by decide +kernel
theorem dX3_changeOwner_5 : decode cX3_changeOwner 5 = .ok (.ifCond .eq 16, 3) := by decide +kernel
theorem dX3_changeOwner_8 : decode cX3_changeOwner 8 = .ok (.aload_n 0, 1) := by decide +kernel
theorem dX3_changeOwner_9 : decode cX3_changeOwner 9 = .ok (.iload_n 2, 1) := by decide +kernel
theorem dX3_changeOwner_10 : decode cX3_changeOwner 10 = .ok (.invokevirtual 44, 3) := by decide +kernel
theorem dX3_changeOwner_13 : decode cX3_changeOwner 13 = .ok (.ifCond .eq 8, 3) := by decide +kernel
theorem dX3_changeOwner_16 : decode cX3_changeOwner 16 = .ok (.iload_n 1, 1) := by decide +kernel
theorem dX3_changeOwner_17 : decode cX3_changeOwner 17 = .ok (.iload_n 2, 1) := by decide +kernel
theorem dX3_changeOwner_18 : decode cX3_changeOwner 18 = .ok (.if_icmp .ne 5, 3) := by decide +kernel
theorem dX3_changeOwner_21 : decode cX3_changeOwner 21 = .ok (.iconst (-1), 1) := by decide +kernel
theorem dX3_changeOwner_22 : decode cX3_changeOwner 22 = .ok (.ireturn, 1) := by decide +kernel
theorem dX3_changeOwner_23 : decode cX3_changeOwner 23 = .ok (.aload_n 0, 1) := by decide +kernel
theorem dX3_changeOwner_24 : decode cX3_changeOwner 24 = .ok (.iload_n 2, 1) := by decide +kernel
theorem dX3_changeOwner_25 : decode cX3_changeOwner 25 = .ok (.iload_n 1, 1) := by decide +kernel
theorem dX3_changeOwner_26 : decode cX3_changeOwner 26 = .ok (.invokevirtual 59, 3) := by decide +kernel
theorem dX3_changeOwner_29 : decode cX3_changeOwner 29 = .ok (.ifCond .eq 6, 3) := by decide +kernel
theorem dX3_changeOwner_32 : decode cX3_changeOwner 32 = .ok (.bipush (-3), 2) := by decide +kernel
theorem dX3_changeOwner_34 : decode cX3_changeOwner 34 = .ok (.ireturn, 1) := by decide +kernel
theorem dX3_changeOwner_35 : decode cX3_changeOwner 35 = .ok (.aload_n 0, 1) := by decide +kernel
theorem dX3_changeOwner_36 : decode cX3_changeOwner 36 = .ok (.getfield 22, 3) := by decide +kernel
theorem dX3_changeOwner_39 : decode cX3_changeOwner 39 = .ok (.iload_n 1, 1) := by decide +kernel
theorem dX3_changeOwner_40 : decode cX3_changeOwner 40 = .ok (.iaload, 1) := by decide +kernel
theorem dX3_changeOwner_41 : decode cX3_changeOwner 41 = .ok (.istore_n 3, 1) := by decide +kernel
theorem dX3_changeOwner_42 : decode cX3_changeOwner 42 = .ok (.aload_n 0, 1) := by decide +kernel
theorem dX3_changeOwner_43 : decode cX3_changeOwner 43 = .ok (.getfield 22, 3) := by decide +kernel
theorem dX3_changeOwner_46 : decode cX3_changeOwner 46 = .ok (.iload_n 1, 1) := by decide +kernel
theorem dX3_changeOwner_47 : decode cX3_changeOwner 47 = .ok (.iload_n 2, 1) := by decide +kernel
theorem dX3_changeOwner_48 : decode cX3_changeOwner 48 = .ok (.iastore, 1) := by decide +kernel
theorem dX3_changeOwner_49 : decode cX3_changeOwner 49 = .ok (.iload_n 3, 1) := by decide +kernel
theorem dX3_changeOwner_50 : decode cX3_changeOwner 50 = .ok (.ireturn, 1) := by decide +kernel
set_option maxRecDepth 20000 in
theorem ggX3_handOn_X3_isThing : GoodIn wsX3_handOn wsX3_isThing := goodIn_r _ [7, 8, 19, 20, 21, 22, 23, 24, 25] (by decide +kernel) (by decide +kernel)
set_option maxRecDepth 20000 in
theorem gX3_handOn_X3_isThing : GoodIn wsX3_handOn (wsV RX3 40 RX3 yX3_isThing wsX3_isThing) := goodIn_app (goodIn_of _ (by decide +kernel)) ggX3_handOn_X3_isThing
set_option maxRecDepth 20000 in
theorem ggX3_handOn_X3_singleReferenceTo : GoodIn wsX3_handOn wsX3_singleReferenceTo := goodIn_r _ [12, 13, 14, 19, 20, 21, 22, 23, 24, 25] (by decide +kernel) (by decide +kernel)
set_option maxRecDepth 20000 in
theorem gX3_handOn_X3_singleReferenceTo : GoodIn wsX3_handOn (wsV RX3 63 RX3 yX3_singleReferenceTo wsX3_singleReferenceTo) := goodIn_app (goodIn_of _ (by decide +kernel)) ggX3_handOn_X3_singleReferenceTo
set_option maxRecDepth 20000 in
theorem ggX3_handOn_X3_isUnder : GoodIn wsX3_handOn wsX3_isUnder := goodIn_r _ [18, 2, 3, 4, 5, 6, 7, 8, 19, 20, 21, 22, 23, 24, 25] (by decide +kernel) (by decide +kernel)
set_option maxRecDepth 20000 in
theorem gX3_handOn_X3_isUnder : GoodIn wsX3_handOn (wsV RX3 59 RX3 yX3_isUnder wsX3_isUnder) := goodIn_app (goodIn_of _ (by decide +kernel)) ggX3_handOn_X3_isUnder
theorem dX3_handOn_0 : decode cX3_handOn 0 = .ok (.aload_n 0, 1) := by decide +kernel
theorem dX3_handOn_1 : decode cX3_handOn 1 = .ok (.iload_n 1, 1) := by decide +kernel
theorem dX3_handOn_2 : decode cX3_handOn 2 = .ok (.invokevirtual 40, 3) := by decide +kernel
theorem dX3_handOn_5 : decode cX3_handOn 5 = .ok (.ifCond .eq 16, 3) := by decide +kernel
theorem dX3_handOn_8 : decode cX3_handOn 8 = .ok (.aload_n 0, 1) := by decide +kernel
theorem dX3_handOn_9 : decode cX3_handOn 9 = .ok (.iload_n 2, 1) := by decide +kernel
theorem dX3_handOn_10 : decode cX3_handOn 10 = .ok (.invokevirtual 40, 3) := by decide +kernel
theorem dX3_handOn_13 : decode cX3_handOn 13 = .ok (.ifCond .eq 8, 3) := by decide +kernel
theorem dX3_handOn_16 : decode cX3_handOn 16 = .ok (.iload_n 1, 1) := by decide +kernel
theorem dX3_handOn_17 : decode cX3_handOn 17 = .ok (.iload_n 2, 1) := by decide +kernel
theorem dX3_handOn_18 : decode cX3_handOn 18 = .ok (.if_icmp .ne 5, 3) := by decide +kernel
theorem dX3_handOn_21 : decode cX3_handOn 21 = .ok (.iconst (-1), 1) := by decide +kernel
theorem dX3_handOn_22 : decode cX3_handOn 22 = .ok (.ireturn, 1) := by decide +kernel
theorem dX3_handOn_23 : decode cX3_handOn 23 = .ok (.aload_n 0, 1) := by decide +kernel
theorem dX3_handOn_24 : decode cX3_handOn 24 = .ok (.iload_n 1, 1) := by decide +kernel
theorem dX3_handOn_25 : decode cX3_handOn 25 = .ok (.invokevirtual 63, 3) := by decide +kernel
theorem dX3_handOn_28 : decode cX3_handOn 28 = .ok (.istore_n 3, 1) := by decide +kernel
theorem dX3_handOn_29 : decode cX3_handOn 29 = .ok (.aload_n 0, 1) := by decide +kernel
theorem dX3_handOn_30 : decode cX3_handOn 30 = .ok (.iload_n 2, 1) := by decide +kernel
theorem dX3_handOn_31 : decode cX3_handOn 31 = .ok (.iload_n 1, 1) := by decide +kernel
theorem dX3_handOn_32 : decode cX3_handOn 32 = .ok (.invokevirtual 59, 3) := by decide +kernel
theorem dX3_handOn_35 : decode cX3_handOn 35 = .ok (.ifCond .ne 19, 3) := by decide +kernel
theorem dX3_handOn_38 : decode cX3_handOn 38 = .ok (.iload_n 3, 1) := by decide +kernel
theorem dX3_handOn_39 : decode cX3_handOn 39 = .ok (.bipush (-9), 2) := by decide +kernel
theorem dX3_handOn_41 : decode cX3_handOn 41 = .ok (.if_icmp .eq 13, 3) := by decide +kernel
theorem dX3_handOn_44 : decode cX3_handOn 44 = .ok (.aload_n 0, 1) := by decide +kernel
theorem dX3_handOn_45 : decode cX3_handOn 45 = .ok (.getfield 25, 3) := by decide +kernel
theorem dX3_handOn_48 : decode cX3_handOn 48 = .ok (.iload_n 3, 1) := by decide +kernel
theorem dX3_handOn_49 : decode cX3_handOn 49 = .ok (.iaload, 1) := by decide +kernel
theorem dX3_handOn_50 : decode cX3_handOn 50 = .ok (.iload_n 2, 1) := by decide +kernel
theorem dX3_handOn_51 : decode cX3_handOn 51 = .ok (.if_icmp .ne 6, 3) := by decide +kernel
theorem dX3_handOn_54 : decode cX3_handOn 54 = .ok (.bipush (-3), 2) := by decide +kernel
theorem dX3_handOn_56 : decode cX3_handOn 56 = .ok (.ireturn, 1) := by decide +kernel
theorem dX3_handOn_57 : decode cX3_handOn 57 = .ok (.aload_n 0, 1) := by decide +kernel
theorem dX3_handOn_58 : decode cX3_handOn 58 = .ok (.getfield 25, 3) := by decide +kernel
theorem dX3_handOn_61 : decode cX3_handOn 61 = .ok (.iload_n 3, 1) := by decide +kernel
theorem dX3_handOn_62 : decode cX3_handOn 62 = .ok (.iaload, 1) := by decide +kernel
theorem dX3_handOn_63 : decode cX3_handOn 63 = .ok (.istore 4, 2) := by decide +kernel
theorem dX3_handOn_65 : decode cX3_handOn 65 = .ok (.aload_n 0, 1) := by decide +kernel
theorem dX3_handOn_66 : decode cX3_handOn 66 = .ok (.getfield 25, 3) := by decide +kernel
theorem dX3_handOn_69 : decode cX3_handOn 69 = .ok (.iload_n 3, 1) := by decide +kernel
theorem dX3_handOn_70 : decode cX3_handOn 70 = .ok (.iload_n 2, 1) := by decide +kernel
theorem dX3_handOn_71 : decode cX3_handOn 71 = .ok (.iastore, 1) := by decide +kernel
theorem dX3_handOn_72 : decode cX3_handOn 72 = .ok (.aload_n 0, 1) := by decide +kernel
theorem dX3_handOn_73 : decode cX3_handOn 73 = .ok (.getfield 22, 3) := by decide +kernel
theorem dX3_handOn_76 : decode cX3_handOn 76 = .ok (.iload_n 1, 1) := by decide +kernel
theorem dX3_handOn_77 : decode cX3_handOn 77 = .ok (.iload_n 2, 1) := by decide +kernel
theorem dX3_handOn_78 : decode cX3_handOn 78 = .ok (.iastore, 1) := by decide +kernel
theorem dX3_handOn_79 : decode cX3_handOn 79 = .ok (.iload 4, 2) := by decide +kernel
theorem dX3_handOn_81 : decode cX3_handOn 81 = .ok (.ireturn, 1) := by decide +kernel
theorem dX3_singleReferenceTo_0 : decode cX3_singleReferenceTo 0 = .ok (.bipush (-9), 2) := by decide +kernel
theorem dX3_singleReferenceTo_2 : decode cX3_singleReferenceTo 2 = .ok (.istore_n 2, 1) := by decide +kernel
theorem dX3_singleReferenceTo_3 : decode cX3_singleReferenceTo 3 = .ok (.iconst 0, 1) := by decide +kernel
theorem dX3_singleReferenceTo_4 : decode cX3_singleReferenceTo 4 = .ok (.istore_n 3, 1) := by decide +kernel
theorem dX3_singleReferenceTo_5 : decode cX3_singleReferenceTo 5 = .ok (.iload_n 3, 1) := by decide +kernel
theorem dX3_singleReferenceTo_6 : decode cX3_singleReferenceTo 6 = .ok (.aload_n 0, 1) := by decide +kernel
theorem dX3_singleReferenceTo_7 : decode cX3_singleReferenceTo 7 = .ok (.getfield 15, 3) := by decide +kernel
theorem dX3_singleReferenceTo_10 : decode cX3_singleReferenceTo 10 = .ok (.if_icmp .ge 30, 3) := by decide +kernel
theorem dX3_singleReferenceTo_13 : decode cX3_singleReferenceTo 13 = .ok (.aload_n 0, 1) := by decide +kernel
theorem dX3_singleReferenceTo_14 : decode cX3_singleReferenceTo 14 = .ok (.getfield 28, 3) := by decide +kernel
theorem dX3_singleReferenceTo_17 : decode cX3_singleReferenceTo 17 = .ok (.iload_n 3, 1) := by decide +kernel
theorem dX3_singleReferenceTo_18 : decode cX3_singleReferenceTo 18 = .ok (.iaload, 1) := by decide +kernel
theorem dX3_singleReferenceTo_19 : decode cX3_singleReferenceTo 19 = .ok (.iload_n 1, 1) := by decide +kernel
theorem dX3_singleReferenceTo_20 : decode cX3_singleReferenceTo 20 = .ok (.if_icmp .ne 14, 3) := by decide +kernel
theorem dX3_singleReferenceTo_23 : decode cX3_singleReferenceTo 23 = .ok (.iload_n 2, 1) := by decide +kernel
theorem dX3_singleReferenceTo_24 : decode cX3_singleReferenceTo 24 = .ok (.bipush (-9), 2) := by decide +kernel
theorem dX3_singleReferenceTo_26 : decode cX3_singleReferenceTo 26 = .ok (.if_icmp .eq 6, 3) := by decide +kernel
theorem dX3_singleReferenceTo_29 : decode cX3_singleReferenceTo 29 = .ok (.bipush (-9), 2) := by decide +kernel
theorem dX3_singleReferenceTo_31 : decode cX3_singleReferenceTo 31 = .ok (.ireturn, 1) := by decide +kernel
theorem dX3_singleReferenceTo_32 : decode cX3_singleReferenceTo 32 = .ok (.iload_n 3, 1) := by decide +kernel
theorem dX3_singleReferenceTo_33 : decode cX3_singleReferenceTo 33 = .ok (.istore_n 2, 1) := by decide +kernel
theorem dX3_singleReferenceTo_34 : decode cX3_singleReferenceTo 34 = .ok (.iinc 3 1, 3) := by decide +kernel
theorem dX3_singleReferenceTo_37 : decode cX3_singleReferenceTo 37 = .ok (.goto (-32), 3) := by decide +kernel
theorem dX3_singleReferenceTo_40 : decode cX3_singleReferenceTo 40 = .ok (.iload_n 2, 1) := by decide +kernel
theorem dX3_singleReferenceTo_41 : decode cX3_singleReferenceTo 41 = .ok (.ireturn, 1) := by decide +kernel
set_option maxRecDepth 20000 in
theorem ggX3_isUnder_X3_isThing : GoodIn wsX3_isUnder wsX3_isThing := goodIn_r _ [6, 7, 8, 9, 10, 11, 12, 13, 14] (by decide +kernel) (by decide +kernel)
set_option maxRecDepth 20000 in
theorem gX3_isUnder_X3_isThing : GoodIn wsX3_isUnder (wsV RX3 40 RX3 yX3_isThing wsX3_isThing) := goodIn_app (goodIn_of _ (by decide +kernel)) ggX3_isUnder_X3_isThing
theorem dX3_isUnder_0 : decode cX3_isUnder 0 = .ok (.iload_n 1, 1) := by decide +kernel
theorem dX3_isUnder_1 : decode cX3_isUnder 1 = .ok (.istore_n 3, 1) := by decide +kernel
theorem dX3_isUnder_2 : decode cX3_isUnder 2 = .ok (.iconst 0, 1) := by decide +kernel
theorem dX3_isUnder_3 : decode cX3_isUnder 3 = .ok (.istore 4, 2) := by decide +kernel
theorem dX3_isUnder_5 : decode cX3_isUnder 5 = .ok (.iload 4, 2) := by decide +kernel
theorem dX3_isUnder_7 : decode cX3_isUnder 7 = .ok (.bipush 6, 2) := by decide +kernel
theorem dX3_isUnder_9 : decode cX3_isUnder 9 = .ok (.if_icmp .ge 31, 3) := by decide +kernel
theorem dX3_isUnder_12 : decode cX3_isUnder 12 = .ok (.aload_n 0, 1) := by decide +kernel
theorem dX3_isUnder_13 : decode cX3_isUnder 13 = .ok (.iload_n 3, 1) := by decide +kernel
theorem dX3_isUnder_14 : decode cX3_isUnder 14 = .ok (.invokevirtual 40, 3) := by decide +kernel
theorem dX3_isUnder_17 : decode cX3_isUnder 17 = .ok (.ifCond .eq 23, 3) := by decide +kernel
theorem dX3_isUnder_20 : decode cX3_isUnder 20 = .ok (.aload_n 0, 1) := by decide +kernel
theorem dX3_isUnder_21 : decode cX3_isUnder 21 = .ok (.getfield 22, 3) := by decide +kernel
theorem dX3_isUnder_24 : decode cX3_isUnder 24 = .ok (.iload_n 3, 1) := by decide +kernel
theorem dX3_isUnder_25 : decode cX3_isUnder 25 = .ok (.iaload, 1) := by decide +kernel
theorem dX3_isUnder_26 : decode cX3_isUnder 26 = .ok (.istore_n 3, 1) := by decide +kernel
theorem dX3_isUnder_27 : decode cX3_isUnder 27 = .ok (.iload_n 3, 1) := by decide +kernel
theorem dX3_isUnder_28 : decode cX3_isUnder 28 = .ok (.iload_n 2, 1) := by decide +kernel
theorem dX3_isUnder_29 : decode cX3_isUnder 29 = .ok (.if_icmp .ne 5, 3) := by decide +kernel
theorem dX3_isUnder_32 : decode cX3_isUnder 32 = .ok (.iconst 1, 1) := by decide +kernel
theorem dX3_isUnder_33 : decode cX3_isUnder 33 = .ok (.ireturn, 1) := by decide +kernel
theorem dX3_isUnder_34 : decode cX3_isUnder 34 = .ok (.iinc 4 1, 3) := by decide +kernel
theorem dX3_isUnder_37 : decode cX3_isUnder 37 = .ok (.goto (-32), 3) := by decide +kernel
theorem dX3_isUnder_40 : decode cX3_isUnder 40 = .ok (.iconst 0, 1) := by decide +kernel
theorem dX3_isUnder_41 : decode cX3_isUnder 41 = .ok (.ireturn, 1) := by decide +kernel
set_option maxRecDepth 20000 in
theorem ggX3_levelOf_X3_isThing : GoodIn wsX3_levelOf wsX3_isThing := goodIn_r _ [6, 7, 8, 9, 10, 11, 12, 13, 14] (by decide +kernel) (by decide +kernel)
set_option maxRecDepth 20000 in
theorem gX3_levelOf_X3_isThing : GoodIn wsX3_levelOf (wsV RX3 40 RX3 yX3_isThing wsX3_isThing) := goodIn_app (goodIn_of _ (by decide +kernel)) ggX3_levelOf_X3_isThing
theorem dX3_levelOf_0 : decode cX3_levelOf 0 = .ok (.iconst 0, 1) := by decide +kernel
theorem dX3_levelOf_1 : decode cX3_levelOf 1 = .ok (.istore_n 2, 1) := by decide +kernel
theorem dX3_levelOf_2 : decode cX3_levelOf 2 = .ok (.iload_n 1, 1) := by decide +kernel
theorem dX3_levelOf_3 : decode cX3_levelOf 3 = .ok (.istore_n 3, 1) := by decide +kernel
theorem dX3_levelOf_4 : decode cX3_levelOf 4 = .ok (.iconst 0, 1) := by decide +kernel
theorem dX3_levelOf_5 : decode cX3_levelOf 5 = .ok (.istore 4, 2) := by decide +kernel
theorem dX3_levelOf_7 : decode cX3_levelOf 7 = .ok (.iload 4, 2) := by decide +kernel
theorem dX3_levelOf_9 : decode cX3_levelOf 9 = .ok (.bipush 6, 2) := by decide +kernel
theorem dX3_levelOf_11 : decode cX3_levelOf 11 = .ok (.if_icmp .ge 27, 3) := by decide +kernel
theorem dX3_levelOf_14 : decode cX3_levelOf 14 = .ok (.aload_n 0, 1) := by decide +kernel
theorem dX3_levelOf_15 : decode cX3_levelOf 15 = .ok (.iload_n 3, 1) := by decide +kernel
theorem dX3_levelOf_16 : decode cX3_levelOf 16 = .ok (.invokevirtual 40, 3) := by decide +kernel
theorem dX3_levelOf_19 : decode cX3_levelOf 19 = .ok (.ifCond .eq 19, 3) := by decide +kernel
theorem dX3_levelOf_22 : decode cX3_levelOf 22 = .ok (.aload_n 0, 1) := by decide +kernel
theorem dX3_levelOf_23 : decode cX3_levelOf 23 = .ok (.getfield 22, 3) := by decide +kernel
theorem dX3_levelOf_26 : decode cX3_levelOf 26 = .ok (.iload_n 3, 1) := by decide +kernel
theorem dX3_levelOf_27 : decode cX3_levelOf 27 = .ok (.iaload, 1) := by decide +kernel
theorem dX3_levelOf_28 : decode cX3_levelOf 28 = .ok (.istore_n 3, 1) := by decide +kernel
theorem dX3_levelOf_29 : decode cX3_levelOf 29 = .ok (.iinc 2 1, 3) := by decide +kernel
theorem dX3_levelOf_32 : decode cX3_levelOf 32 = .ok (.iinc 4 1, 3) := by decide +kernel
theorem dX3_levelOf_35 : decode cX3_levelOf 35 = .ok (.goto (-28), 3) := by decide +kernel
theorem dX3_levelOf_38 : decode cX3_levelOf 38 = .ok (.iload_n 2, 1) := by decide +kernel
theorem dX3_levelOf_39 : decode cX3_levelOf 39 = .ok (.ireturn, 1) := by decide +kernel
set_option maxRecDepth 20000 in
theorem ggX3_lockOf_X3_levelOf : GoodIn wsX3_lockOf wsX3_levelOf := goodIn_r _ [5, 6, 7, 8, 9, 4, 10, 11, 17, 18, 19, 20, 21, 22, 23] (by decide +kernel) (by decide +kernel)
set_option maxRecDepth 20000 in
theorem gX3_lockOf_X3_levelOf : GoodIn wsX3_lockOf (wsV RX3 67 RX3 yX3_levelOf wsX3_levelOf) := goodIn_app (goodIn_of _ (by decide +kernel)) ggX3_lockOf_X3_levelOf
set_option maxRecDepth 20000 in
theorem ggX3_lockOf_X3_kindOf : GoodIn wsX3_lockOf wsX3_kindOf := goodIn_r _ [15, 16, 7, 8, 9, 4, 10, 11, 17, 18, 19, 20, 21, 22, 23] (by decide +kernel) (by decide +kernel)
set_option maxRecDepth 20000 in
theorem gX3_lockOf_X3_kindOf : GoodIn wsX3_lockOf (wsV RX3 70 RX3 yX3_kindOf wsX3_kindOf) := goodIn_app (goodIn_of _ (by decide +kernel)) ggX3_lockOf_X3_kindOf
theorem dX3_lockOf_0 : decode cX3_lockOf 0 = .ok (.aload_n 0, 1) := by decide +kernel
theorem dX3_lockOf_1 : decode cX3_lockOf 1 = .ok (.iload_n 1, 1) := by decide +kernel
theorem dX3_lockOf_2 : decode cX3_lockOf 2 = .ok (.invokevirtual 67, 3) := by decide +kernel
theorem dX3_lockOf_5 : decode cX3_lockOf 5 = .ok (.istore_n 2, 1) := by decide +kernel
theorem dX3_lockOf_6 : decode cX3_lockOf 6 = .ok (.aload_n 0, 1) := by decide +kernel
theorem dX3_lockOf_7 : decode cX3_lockOf 7 = .ok (.iload_n 1, 1) := by decide +kernel
theorem dX3_lockOf_8 : decode cX3_lockOf 8 = .ok (.invokevirtual 70, 3) := by decide +kernel
theorem dX3_lockOf_11 : decode cX3_lockOf 11 = .ok (.lookupswitch 33 #[(1, 25), (2, 29)], 25) := by decide +kernel
theorem dX3_lockOf_36 : decode cX3_lockOf 36 = .ok (.iload_n 2, 1) := by decide +kernel
theorem dX3_lockOf_37 : decode cX3_lockOf 37 = .ok (.iconst 1, 1) := by decide +kernel
theorem dX3_lockOf_38 : decode cX3_lockOf 38 = .ok (.iadd, 1) := by decide +kernel
theorem dX3_lockOf_39 : decode cX3_lockOf 39 = .ok (.ireturn, 1) := by decide +kernel
theorem dX3_lockOf_40 : decode cX3_lockOf 40 = .ok (.iconst 2, 1) := by decide +kernel
theorem dX3_lockOf_41 : decode cX3_lockOf 41 = .ok (.iload_n 2, 1) := by decide +kernel
theorem dX3_lockOf_42 : decode cX3_lockOf 42 = .ok (.imul, 1) := by decide +kernel
theorem dX3_lockOf_43 : decode cX3_lockOf 43 = .ok (.ireturn, 1) := by decide +kernel
theorem dX3_lockOf_44 : decode cX3_lockOf 44 = .ok (.iload_n 2, 1) := by decide +kernel
theorem dX3_lockOf_45 : decode cX3_lockOf 45 = .ok (.ireturn, 1) := by decide +kernel
set_option maxRecDepth 20000 in
theorem ggX3_greatestLock_X3_lockOf : GoodIn wsX3_greatestLock wsX3_lockOf := goodIn_r _ [10, 11, 12, 13, 9, 14, 15, 16, 17, 18, 19, 1, 20, 21, 22, 23, 24, 25, 26, 27, 28, 29, 30, 31] (by decide +kernel) (by decide +kernel)
set_option maxRecDepth 20000 in
theorem gX3_greatestLock_X3_lockOf : GoodIn wsX3_greatestLock (wsV RX3 73 RX3 yX3_lockOf wsX3_lockOf) := goodIn_app (goodIn_of _ (by decide +kernel)) ggX3_greatestLock_X3_lockOf
theorem dX3_greatestLock_0 : decode cX3_greatestLock 0 = .ok (.iconst 0, 1) := by decide +kernel
theorem dX3_greatestLock_1 : decode cX3_greatestLock 1 = .ok (.istore_n 1, 1) := by decide +kernel
theorem dX3_greatestLock_2 : decode cX3_greatestLock 2 = .ok (.iconst 0, 1) := by decide +kernel
theorem dX3_greatestLock_3 : decode cX3_greatestLock 3 = .ok (.istore_n 2, 1) := by decide +kernel
theorem dX3_greatestLock_4 : decode cX3_greatestLock 4 = .ok (.iload_n 2, 1) := by decide +kernel
theorem dX3_greatestLock_5 : decode cX3_greatestLock 5 = .ok (.aload_n 0, 1) := by decide +kernel
theorem dX3_greatestLock_6 : decode cX3_greatestLock 6 = .ok (.getfield 9, 3) := by decide +kernel
theorem dX3_greatestLock_9 : decode cX3_greatestLock 9 = .ok (.if_icmp .ge 19, 3) := by decide +kernel
theorem dX3_greatestLock_12 : decode cX3_greatestLock 12 = .ok (.iload_n 1, 1) := by decide +kernel
theorem dX3_greatestLock_13 : decode cX3_greatestLock 13 = .ok (.aload_n 0, 1) := by decide +kernel
theorem dX3_greatestLock_14 : decode cX3_greatestLock 14 = .ok (.iload_n 2, 1) := by decide +kernel
theorem dX3_greatestLock_15 : decode cX3_greatestLock 15 = .ok (.invokevirtual 73, 3) := by decide +kernel
theorem dX3_greatestLock_18 : decode cX3_greatestLock 18 = .ok (.invokestatic 76, 3) := by decide +kernel
theorem dX3_greatestLock_21 : decode cX3_greatestLock 21 = .ok (.istore_n 1, 1) := by decide +kernel
theorem dX3_greatestLock_22 : decode cX3_greatestLock 22 = .ok (.iinc 2 1, 3) := by decide +kernel
theorem dX3_greatestLock_25 : decode cX3_greatestLock 25 = .ok (.goto (-21), 3) := by decide +kernel
theorem dX3_greatestLock_28 : decode cX3_greatestLock 28 = .ok (.iload_n 1, 1) := by decide +kernel
theorem dX3_greatestLock_29 : decode cX3_greatestLock 29 = .ok (.ireturn, 1) := by decide +kernel
set_option maxRecDepth 20000 in
theorem ggX3_targetsOf_X4_bit : GoodIn wsX3_targetsOf wsX4_bit := goodIn_r _ [3] (by decide +kernel) (by decide +kernel)
set_option maxRecDepth 20000 in
theorem gX3_targetsOf_X4_bit_n81 : GoodIn wsX3_targetsOf (wsX4_bit) := ggX3_targetsOf_X4_bit
set_option maxRecDepth 20000 in
theorem ggX3_targetsOf_X3_oneOn : GoodIn wsX3_targetsOf wsX3_oneOn := goodIn_r _ [8, 9, 10, 11, 12, 2, 13, 1, 3, 14, 15, 16, 17, 18, 19, 20] (by decide +kernel) (by decide +kernel)
set_option maxRecDepth 20000 in
theorem gX3_targetsOf_X3_oneOn : GoodIn wsX3_targetsOf (wsV RX3 84 RX3 yX3_oneOn wsX3_oneOn) := goodIn_app (goodIn_of _ (by decide +kernel)) ggX3_targetsOf_X3_oneOn
theorem dX3_targetsOf_0 : decode cX3_targetsOf 0 = .ok (.aload_n 0, 1) := by decide +kernel
theorem dX3_targetsOf_1 : decode cX3_targetsOf 1 = .ok (.iload_n 1, 1) := by decide +kernel
theorem dX3_targetsOf_2 : decode cX3_targetsOf 2 = .ok (.invokestatic 81, 3) := by decide +kernel
theorem dX3_targetsOf_5 : decode cX3_targetsOf 5 = .ok (.invokevirtual 84, 3) := by decide +kernel
theorem dX3_targetsOf_8 : decode cX3_targetsOf 8 = .ok (.ireturn, 1) := by decide +kernel
set_option maxRecDepth 20000 in
theorem ggX3_oneOn_X4_holds : GoodIn wsX3_oneOn wsX4_holds := goodIn_r _ [6] (by decide +kernel) (by decide +kernel)
set_option maxRecDepth 20000 in
theorem gX3_oneOn_X4_holds_n87 : GoodIn wsX3_oneOn (wsX4_holds) := ggX3_oneOn_X4_holds
set_option maxRecDepth 20000 in
theorem ggX3_oneOn_X4_bit : GoodIn wsX3_oneOn wsX4_bit := goodIn_r _ [8] (by decide +kernel) (by decide +kernel)
set_option maxRecDepth 20000 in
theorem gX3_oneOn_X4_bit_n81 : GoodIn wsX3_oneOn (wsX4_bit) := ggX3_oneOn_X4_bit
theorem dX3_oneOn_0 : decode cX3_oneOn 0 = .ok (.iconst 0, 1) := by decide +kernel
theorem dX3_oneOn_1 : decode cX3_oneOn 1 = .ok (.istore_n 2, 1) := by decide +kernel
theorem dX3_oneOn_2 : decode cX3_oneOn 2 = .ok (.iconst 0, 1) := by decide +kernel
theorem dX3_oneOn_3 : decode cX3_oneOn 3 = .ok (.istore_n 3, 1) := by decide +kernel
theorem dX3_oneOn_4 : decode cX3_oneOn 4 = .ok (.iload_n 3, 1) := by decide +kernel
theorem dX3_oneOn_5 : decode cX3_oneOn 5 = .ok (.aload_n 0, 1) := by decide +kernel
theorem dX3_oneOn_6 : decode cX3_oneOn 6 = .ok (.getfield 15, 3) := by decide +kernel
theorem dX3_oneOn_9 : decode cX3_oneOn 9 = .ok (.if_icmp .ge 34, 3) := by decide +kernel
theorem dX3_oneOn_12 : decode cX3_oneOn 12 = .ok (.iload_n 1, 1) := by decide +kernel
theorem dX3_oneOn_13 : decode cX3_oneOn 13 = .ok (.aload_n 0, 1) := by decide +kernel
theorem dX3_oneOn_14 : decode cX3_oneOn 14 = .ok (.getfield 25, 3) := by decide +kernel
theorem dX3_oneOn_17 : decode cX3_oneOn 17 = .ok (.iload_n 3, 1) := by decide +kernel
theorem dX3_oneOn_18 : decode cX3_oneOn 18 = .ok (.iaload, 1) := by decide +kernel
theorem dX3_oneOn_19 : decode cX3_oneOn 19 = .ok (.invokestatic 87, 3) := by decide +kernel
theorem dX3_oneOn_22 : decode cX3_oneOn 22 = .ok (.ifCond .eq 15, 3) := by decide +kernel
theorem dX3_oneOn_25 : decode cX3_oneOn 25 = .ok (.iload_n 2, 1) := by decide +kernel
theorem dX3_oneOn_26 : decode cX3_oneOn 26 = .ok (.aload_n 0, 1) := by decide +kernel
theorem dX3_oneOn_27 : decode cX3_oneOn 27 = .ok (.getfield 28, 3) := by decide +kernel
theorem dX3_oneOn_30 : decode cX3_oneOn 30 = .ok (.iload_n 3, 1) := by decide +kernel
theorem dX3_oneOn_31 : decode cX3_oneOn 31 = .ok (.iaload, 1) := by decide +kernel
theorem dX3_oneOn_32 : decode cX3_oneOn 32 = .ok (.invokestatic 81, 3) := by decide +kernel
theorem dX3_oneOn_35 : decode cX3_oneOn 35 = .ok (.ior, 1) := by decide +kernel
theorem dX3_oneOn_36 : decode cX3_oneOn 36 = .ok (.istore_n 2, 1) := by decide +kernel
theorem dX3_oneOn_37 : decode cX3_oneOn 37 = .ok (.iinc 3 1, 3) := by decide +kernel
theorem dX3_oneOn_40 : decode cX3_oneOn 40 = .ok (.goto (-36), 3) := by decide +kernel
theorem dX3_oneOn_43 : decode cX3_oneOn 43 = .ok (.iload_n 2, 1) := by decide +kernel
theorem dX3_oneOn_44 : decode cX3_oneOn 44 = .ok (.ireturn, 1) := by decide +kernel
set_option maxRecDepth 20000 in
theorem ggX3_oneBack_X4_holds : GoodIn wsX3_oneBack wsX4_holds := goodIn_r _ [6] (by decide +kernel) (by decide +kernel)
set_option maxRecDepth 20000 in
theorem gX3_oneBack_X4_holds_n87 : GoodIn wsX3_oneBack (wsX4_holds) := ggX3_oneBack_X4_holds
set_option maxRecDepth 20000 in
theorem ggX3_oneBack_X4_bit : GoodIn wsX3_oneBack wsX4_bit := goodIn_r _ [8] (by decide +kernel) (by decide +kernel)
set_option maxRecDepth 20000 in
theorem gX3_oneBack_X4_bit_n81 : GoodIn wsX3_oneBack (wsX4_bit) := ggX3_oneBack_X4_bit
theorem dX3_oneBack_0 : decode cX3_oneBack 0 = .ok (.iconst 0, 1) := by decide +kernel
theorem dX3_oneBack_1 : decode cX3_oneBack 1 = .ok (.istore_n 2, 1) := by decide +kernel
theorem dX3_oneBack_2 : decode cX3_oneBack 2 = .ok (.iconst 0, 1) := by decide +kernel
theorem dX3_oneBack_3 : decode cX3_oneBack 3 = .ok (.istore_n 3, 1) := by decide +kernel
theorem dX3_oneBack_4 : decode cX3_oneBack 4 = .ok (.iload_n 3, 1) := by decide +kernel
theorem dX3_oneBack_5 : decode cX3_oneBack 5 = .ok (.aload_n 0, 1) := by decide +kernel
theorem dX3_oneBack_6 : decode cX3_oneBack 6 = .ok (.getfield 15, 3) := by decide +kernel
theorem dX3_oneBack_9 : decode cX3_oneBack 9 = .ok (.if_icmp .ge 34, 3) := by decide +kernel
theorem dX3_oneBack_12 : decode cX3_oneBack 12 = .ok (.iload_n 1, 1) := by decide +kernel
theorem dX3_oneBack_13 : decode cX3_oneBack 13 = .ok (.aload_n 0, 1) := by decide +kernel
theorem dX3_oneBack_14 : decode cX3_oneBack 14 = .ok (.getfield 28, 3) := by decide +kernel
theorem dX3_oneBack_17 : decode cX3_oneBack 17 = .ok (.iload_n 3, 1) := by decide +kernel
theorem dX3_oneBack_18 : decode cX3_oneBack 18 = .ok (.iaload, 1) := by decide +kernel
theorem dX3_oneBack_19 : decode cX3_oneBack 19 = .ok (.invokestatic 87, 3) := by decide +kernel
theorem dX3_oneBack_22 : decode cX3_oneBack 22 = .ok (.ifCond .eq 15, 3) := by decide +kernel
theorem dX3_oneBack_25 : decode cX3_oneBack 25 = .ok (.iload_n 2, 1) := by decide +kernel
theorem dX3_oneBack_26 : decode cX3_oneBack 26 = .ok (.aload_n 0, 1) := by decide +kernel
theorem dX3_oneBack_27 : decode cX3_oneBack 27 = .ok (.getfield 25, 3) := by decide +kernel
theorem dX3_oneBack_30 : decode cX3_oneBack 30 = .ok (.iload_n 3, 1) := by decide +kernel
theorem dX3_oneBack_31 : decode cX3_oneBack 31 = .ok (.iaload, 1) := by decide +kernel
theorem dX3_oneBack_32 : decode cX3_oneBack 32 = .ok (.invokestatic 81, 3) := by decide +kernel
theorem dX3_oneBack_35 : decode cX3_oneBack 35 = .ok (.ior, 1) := by decide +kernel
theorem dX3_oneBack_36 : decode cX3_oneBack 36 = .ok (.istore_n 2, 1) := by decide +kernel
theorem dX3_oneBack_37 : decode cX3_oneBack 37 = .ok (.iinc 3 1, 3) := by decide +kernel
theorem dX3_oneBack_40 : decode cX3_oneBack 40 = .ok (.goto (-36), 3) := by decide +kernel
theorem dX3_oneBack_43 : decode cX3_oneBack 43 = .ok (.iload_n 2, 1) := by decide +kernel
theorem dX3_oneBack_44 : decode cX3_oneBack 44 = .ok (.ireturn, 1) := by decide +kernel
set_option maxRecDepth 20000 in
theorem ggX3_ledTo_X4_bit : GoodIn wsX3_ledTo wsX4_bit := goodIn_r _ [3] (by decide +kernel) (by decide +kernel)
set_option maxRecDepth 20000 in
theorem gX3_ledTo_X4_bit_n81 : GoodIn wsX3_ledTo (wsX4_bit) := ggX3_ledTo_X4_bit
set_option maxRecDepth 20000 in
theorem ggX3_ledTo_X3_oneOn : GoodIn wsX3_ledTo wsX3_oneOn := goodIn_r _ [8, 9, 10, 11, 12, 2, 13, 1, 3, 14, 15, 16, 17, 18, 19, 20] (by decide +kernel) (by decide +kernel)
set_option maxRecDepth 20000 in
theorem gX3_ledTo_X3_oneOn : GoodIn wsX3_ledTo (wsV RX3 84 RX3 yX3_oneOn wsX3_oneOn) := goodIn_app (goodIn_of _ (by decide +kernel)) ggX3_ledTo_X3_oneOn
theorem dX3_ledTo_0 : decode cX3_ledTo 0 = .ok (.iload_n 1, 1) := by decide +kernel
theorem dX3_ledTo_1 : decode cX3_ledTo 1 = .ok (.invokestatic 81, 3) := by decide +kernel
theorem dX3_ledTo_4 : decode cX3_ledTo 4 = .ok (.iload_n 2, 1) := by decide +kernel
theorem dX3_ledTo_5 : decode cX3_ledTo 5 = .ok (.invokestatic 81, 3) := by decide +kernel
theorem dX3_ledTo_8 : decode cX3_ledTo 8 = .ok (.iconst (-1), 1) := by decide +kernel
theorem dX3_ledTo_9 : decode cX3_ledTo 9 = .ok (.ixor, 1) := by decide +kernel
theorem dX3_ledTo_10 : decode cX3_ledTo 10 = .ok (.iand, 1) := by decide +kernel
theorem dX3_ledTo_11 : decode cX3_ledTo 11 = .ok (.istore_n 3, 1) := by decide +kernel
theorem dX3_ledTo_12 : decode cX3_ledTo 12 = .ok (.iconst 0, 1) := by decide +kernel
theorem dX3_ledTo_13 : decode cX3_ledTo 13 = .ok (.istore 4, 2) := by decide +kernel
theorem dX3_ledTo_15 : decode cX3_ledTo 15 = .ok (.iload 4, 2) := by decide +kernel
theorem dX3_ledTo_17 : decode cX3_ledTo 17 = .ok (.bipush 6, 2) := by decide +kernel
theorem dX3_ledTo_19 : decode cX3_ledTo 19 = .ok (.if_icmp .ge 37, 3) := by decide +kernel
theorem dX3_ledTo_22 : decode cX3_ledTo 22 = .ok (.iload_n 3, 1) := by decide +kernel
theorem dX3_ledTo_23 : decode cX3_ledTo 23 = .ok (.aload_n 0, 1) := by decide +kernel
theorem dX3_ledTo_24 : decode cX3_ledTo 24 = .ok (.iload_n 3, 1) := by decide +kernel
theorem dX3_ledTo_25 : decode cX3_ledTo 25 = .ok (.invokevirtual 84, 3) := by decide +kernel
theorem dX3_ledTo_28 : decode cX3_ledTo 28 = .ok (.ior, 1) := by decide +kernel
theorem dX3_ledTo_29 : decode cX3_ledTo 29 = .ok (.iload_n 2, 1) := by decide +kernel
theorem dX3_ledTo_30 : decode cX3_ledTo 30 = .ok (.invokestatic 81, 3) := by decide +kernel
theorem dX3_ledTo_33 : decode cX3_ledTo 33 = .ok (.iconst (-1), 1) := by decide +kernel
theorem dX3_ledTo_34 : decode cX3_ledTo 34 = .ok (.ixor, 1) := by decide +kernel
theorem dX3_ledTo_35 : decode cX3_ledTo 35 = .ok (.iand, 1) := by decide +kernel
theorem dX3_ledTo_36 : decode cX3_ledTo 36 = .ok (.istore 5, 2) := by decide +kernel
theorem dX3_ledTo_38 : decode cX3_ledTo 38 = .ok (.iload 5, 2) := by decide +kernel
theorem dX3_ledTo_40 : decode cX3_ledTo 40 = .ok (.iload_n 3, 1) := by decide +kernel
theorem dX3_ledTo_41 : decode cX3_ledTo 41 = .ok (.if_icmp .ne 6, 3) := by decide +kernel
theorem dX3_ledTo_44 : decode cX3_ledTo 44 = .ok (.goto 12, 3) := by decide +kernel
theorem dX3_ledTo_47 : decode cX3_ledTo 47 = .ok (.iload 5, 2) := by decide +kernel
theorem dX3_ledTo_49 : decode cX3_ledTo 49 = .ok (.istore_n 3, 1) := by decide +kernel
theorem dX3_ledTo_50 : decode cX3_ledTo 50 = .ok (.iinc 4 1, 3) := by decide +kernel
theorem dX3_ledTo_53 : decode cX3_ledTo 53 = .ok (.goto (-38), 3) := by decide +kernel
theorem dX3_ledTo_56 : decode cX3_ledTo 56 = .ok (.iload_n 3, 1) := by decide +kernel
theorem dX3_ledTo_57 : decode cX3_ledTo 57 = .ok (.ireturn, 1) := by decide +kernel
set_option maxRecDepth 20000 in
theorem ggX3_reached_X3_ledTo : GoodIn wsX3_reached wsX3_ledTo := goodIn_r _ [5, 6, 7, 8, 9, 10, 11, 4, 12, 13, 14, 15, 16, 17, 18, 19, 20, 21, 22, 23, 24] (by decide +kernel) (by decide +kernel)
set_option maxRecDepth 20000 in
theorem gX3_reached_X3_ledTo : GoodIn wsX3_reached (wsV RX3 90 RX3 yX3_ledTo wsX3_ledTo) := goodIn_app (goodIn_of _ (by decide +kernel)) ggX3_reached_X3_ledTo
set_option maxRecDepth 20000 in
theorem ggX3_reached_X4_bit : GoodIn wsX3_reached wsX4_bit := goodIn_r _ [8] (by decide +kernel) (by decide +kernel)
set_option maxRecDepth 20000 in
theorem gX3_reached_X4_bit_n81 : GoodIn wsX3_reached (wsX4_bit) := ggX3_reached_X4_bit
theorem dX3_reached_0 : decode cX3_reached 0 = .ok (.aload_n 0, 1) := by decide +kernel
theorem dX3_reached_1 : decode cX3_reached 1 = .ok (.bipush 6, 2) := by decide +kernel
theorem dX3_reached_3 : decode cX3_reached 3 = .ok (.bipush 7, 2) := by decide +kernel
theorem dX3_reached_5 : decode cX3_reached 5 = .ok (.invokevirtual 90, 3) := by decide +kernel
theorem dX3_reached_8 : decode cX3_reached 8 = .ok (.bipush 6, 2) := by decide +kernel
theorem dX3_reached_10 : decode cX3_reached 10 = .ok (.invokestatic 81, 3) := by decide +kernel
theorem dX3_reached_13 : decode cX3_reached 13 = .ok (.iconst (-1), 1) := by decide +kernel
theorem dX3_reached_14 : decode cX3_reached 14 = .ok (.ixor, 1) := by decide +kernel
theorem dX3_reached_15 : decode cX3_reached 15 = .ok (.iand, 1) := by decide +kernel
theorem dX3_reached_16 : decode cX3_reached 16 = .ok (.ireturn, 1) := by decide +kernel
set_option maxRecDepth 20000 in
theorem ggX3_tailOf_X3_ledTo : GoodIn wsX3_tailOf wsX3_ledTo := goodIn_r _ [5, 6, 7, 8, 9, 10, 11, 4, 12, 13, 14, 15, 16, 17, 18, 19, 20, 21, 22, 23, 24] (by decide +kernel) (by decide +kernel)
set_option maxRecDepth 20000 in
theorem gX3_tailOf_X3_ledTo : GoodIn wsX3_tailOf (wsV RX3 90 RX3 yX3_ledTo wsX3_ledTo) := goodIn_app (goodIn_of _ (by decide +kernel)) ggX3_tailOf_X3_ledTo
theorem dX3_tailOf_0 : decode cX3_tailOf 0 = .ok (.aload_n 0, 1) := by decide +kernel
theorem dX3_tailOf_1 : decode cX3_tailOf 1 = .ok (.iload_n 1, 1) := by decide +kernel
theorem dX3_tailOf_2 : decode cX3_tailOf 2 = .ok (.bipush 7, 2) := by decide +kernel
theorem dX3_tailOf_4 : decode cX3_tailOf 4 = .ok (.invokevirtual 90, 3) := by decide +kernel
theorem dX3_tailOf_7 : decode cX3_tailOf 7 = .ok (.ireturn, 1) := by decide +kernel
set_option maxRecDepth 20000 in
theorem ggX3_isClosed_X3_tailOf : GoodIn wsX3_isClosed wsX3_tailOf := goodIn_r _ [8, 9, 10, 11, 7, 12, 13, 14, 15, 16, 17, 18, 19, 1, 2, 3, 20, 21, 22, 23, 24, 25, 26, 27, 28] (by decide +kernel) (by decide +kernel)
set_option maxRecDepth 20000 in
theorem gX3_isClosed_X3_tailOf : GoodIn wsX3_isClosed (wsV RX3 93 RX3 yX3_tailOf wsX3_tailOf) := goodIn_app (goodIn_of _ (by decide +kernel)) ggX3_isClosed_X3_tailOf
set_option maxRecDepth 20000 in
theorem ggX3_isClosed_X4_holds : GoodIn wsX3_isClosed wsX4_holds := goodIn_r _ [21] (by decide +kernel) (by decide +kernel)
set_option maxRecDepth 20000 in
theorem gX3_isClosed_X4_holds_n87 : GoodIn wsX3_isClosed (wsX4_holds) := ggX3_isClosed_X4_holds
theorem dX3_isClosed_0 : decode cX3_isClosed 0 = .ok (.aload_n 0, 1) := by decide +kernel
theorem dX3_isClosed_1 : decode cX3_isClosed 1 = .ok (.iload_n 1, 1) := by decide +kernel
theorem dX3_isClosed_2 : decode cX3_isClosed 2 = .ok (.invokevirtual 93, 3) := by decide +kernel
theorem dX3_isClosed_5 : decode cX3_isClosed 5 = .ok (.istore_n 2, 1) := by decide +kernel
theorem dX3_isClosed_6 : decode cX3_isClosed 6 = .ok (.iconst 0, 1) := by decide +kernel
theorem dX3_isClosed_7 : decode cX3_isClosed 7 = .ok (.istore_n 3, 1) := by decide +kernel
theorem dX3_isClosed_8 : decode cX3_isClosed 8 = .ok (.iload_n 3, 1) := by decide +kernel
theorem dX3_isClosed_9 : decode cX3_isClosed 9 = .ok (.aload_n 0, 1) := by decide +kernel
theorem dX3_isClosed_10 : decode cX3_isClosed 10 = .ok (.getfield 15, 3) := by decide +kernel
theorem dX3_isClosed_13 : decode cX3_isClosed 13 = .ok (.if_icmp .ge 47, 3) := by decide +kernel
theorem dX3_isClosed_16 : decode cX3_isClosed 16 = .ok (.iload_n 2, 1) := by decide +kernel
theorem dX3_isClosed_17 : decode cX3_isClosed 17 = .ok (.aload_n 0, 1) := by decide +kernel
theorem dX3_isClosed_18 : decode cX3_isClosed 18 = .ok (.getfield 25, 3) := by decide +kernel
theorem dX3_isClosed_21 : decode cX3_isClosed 21 = .ok (.iload_n 3, 1) := by decide +kernel
theorem dX3_isClosed_22 : decode cX3_isClosed 22 = .ok (.iaload, 1) := by decide +kernel
theorem dX3_isClosed_23 : decode cX3_isClosed 23 = .ok (.invokestatic 87, 3) := by decide +kernel
theorem dX3_isClosed_26 : decode cX3_isClosed 26 = .ok (.ifCond .ne 28, 3) := by decide +kernel
theorem dX3_isClosed_29 : decode cX3_isClosed 29 = .ok (.iload_n 2, 1) := by decide +kernel
theorem dX3_isClosed_30 : decode cX3_isClosed 30 = .ok (.aload_n 0, 1) := by decide +kernel
theorem dX3_isClosed_31 : decode cX3_isClosed 31 = .ok (.getfield 28, 3) := by decide +kernel
theorem dX3_isClosed_34 : decode cX3_isClosed 34 = .ok (.iload_n 3, 1) := by decide +kernel
theorem dX3_isClosed_35 : decode cX3_isClosed 35 = .ok (.iaload, 1) := by decide +kernel
theorem dX3_isClosed_36 : decode cX3_isClosed 36 = .ok (.invokestatic 87, 3) := by decide +kernel
theorem dX3_isClosed_39 : decode cX3_isClosed 39 = .ok (.ifCond .eq 15, 3) := by decide +kernel
theorem dX3_isClosed_42 : decode cX3_isClosed 42 = .ok (.aload_n 0, 1) := by decide +kernel
theorem dX3_isClosed_43 : decode cX3_isClosed 43 = .ok (.getfield 28, 3) := by decide +kernel
theorem dX3_isClosed_46 : decode cX3_isClosed 46 = .ok (.iload_n 3, 1) := by decide +kernel
theorem dX3_isClosed_47 : decode cX3_isClosed 47 = .ok (.iaload, 1) := by decide +kernel
theorem dX3_isClosed_48 : decode cX3_isClosed 48 = .ok (.iload_n 1, 1) := by decide +kernel
theorem dX3_isClosed_49 : decode cX3_isClosed 49 = .ok (.if_icmp .eq 5, 3) := by decide +kernel
theorem dX3_isClosed_52 : decode cX3_isClosed 52 = .ok (.iconst 0, 1) := by decide +kernel
theorem dX3_isClosed_53 : decode cX3_isClosed 53 = .ok (.ireturn, 1) := by decide +kernel
theorem dX3_isClosed_54 : decode cX3_isClosed 54 = .ok (.iinc 3 1, 3) := by decide +kernel
theorem dX3_isClosed_57 : decode cX3_isClosed 57 = .ok (.goto (-49), 3) := by decide +kernel
theorem dX3_isClosed_60 : decode cX3_isClosed 60 = .ok (.iconst 1, 1) := by decide +kernel
theorem dX3_isClosed_61 : decode cX3_isClosed 61 = .ok (.ireturn, 1) := by decide +kernel
set_option maxRecDepth 20000 in
theorem ggX3_standBefore_X3_reached : GoodIn wsX3_standBefore wsX3_reached := goodIn_r _ [5, 6, 7, 8, 4, 9, 10, 11, 12, 13, 14, 15, 16, 17, 18, 19, 20, 21, 31, 32, 33, 34, 35, 36, 37] (by decide +kernel) (by decide +kernel)
set_option maxRecDepth 20000 in
theorem gX3_standBefore_X3_reached : GoodIn wsX3_standBefore (wsV RX3 96 RX3 yX3_reached wsX3_reached) := goodIn_app (goodIn_of _ (by decide +kernel)) ggX3_standBefore_X3_reached
set_option maxRecDepth 20000 in
theorem ggX3_standBefore_X4_holds : GoodIn wsX3_standBefore wsX4_holds := goodIn_r _ [21] (by decide +kernel) (by decide +kernel)
set_option maxRecDepth 20000 in
theorem gX3_standBefore_X4_holds_n87 : GoodIn wsX3_standBefore (wsX4_holds) := ggX3_standBefore_X4_holds
set_option maxRecDepth 20000 in
theorem ggX3_standBefore_X3_mayOwn : GoodIn wsX3_standBefore wsX3_mayOwn := goodIn_r _ [25, 26, 27, 28, 29, 4, 30, 31, 32, 33, 34, 35, 36, 37] (by decide +kernel) (by decide +kernel)
set_option maxRecDepth 20000 in
theorem gX3_standBefore_X3_mayOwn : GoodIn wsX3_standBefore (wsV RX3 44 RX3 yX3_mayOwn wsX3_mayOwn) := goodIn_app (goodIn_of _ (by decide +kernel)) ggX3_standBefore_X3_mayOwn
set_option maxRecDepth 20000 in
theorem ggX3_standBefore_X3_ledTo : GoodIn wsX3_standBefore wsX3_ledTo := goodIn_r _ [9, 10, 11, 12, 13, 14, 15, 4, 16, 17, 18, 19, 20, 21, 31, 32, 33, 34, 35, 36, 37] (by decide +kernel) (by decide +kernel)
set_option maxRecDepth 20000 in
theorem gX3_standBefore_X3_ledTo : GoodIn wsX3_standBefore (wsV RX3 90 RX3 yX3_ledTo wsX3_ledTo) := goodIn_app (goodIn_of _ (by decide +kernel)) ggX3_standBefore_X3_ledTo
set_option maxRecDepth 20000 in
theorem ggX3_standBefore_X4_bit : GoodIn wsX3_standBefore wsX4_bit := goodIn_r _ [12] (by decide +kernel) (by decide +kernel)
set_option maxRecDepth 20000 in
theorem gX3_standBefore_X4_bit_n81 : GoodIn wsX3_standBefore (wsX4_bit) := ggX3_standBefore_X4_bit
theorem dX3_standBefore_0 : decode cX3_standBefore 0 = .ok (.aload_n 0, 1) := by decide +kernel
theorem dX3_standBefore_1 : decode cX3_standBefore 1 = .ok (.invokevirtual 96, 3) := by decide +kernel
theorem dX3_standBefore_4 : decode cX3_standBefore 4 = .ok (.iload_n 1, 1) := by decide +kernel
theorem dX3_standBefore_5 : decode cX3_standBefore 5 = .ok (.invokestatic 87, 3) := by decide +kernel
theorem dX3_standBefore_8 : decode cX3_standBefore 8 = .ok (.ifCond .ne 5, 3) := by decide +kernel
theorem dX3_standBefore_11 : decode cX3_standBefore 11 = .ok (.iconst 0, 1) := by decide +kernel
theorem dX3_standBefore_12 : decode cX3_standBefore 12 = .ok (.ireturn, 1) := by decide +kernel
theorem dX3_standBefore_13 : decode cX3_standBefore 13 = .ok (.iconst 0, 1) := by decide +kernel
theorem dX3_standBefore_14 : decode cX3_standBefore 14 = .ok (.istore_n 2, 1) := by decide +kernel
theorem dX3_standBefore_15 : decode cX3_standBefore 15 = .ok (.iconst 0, 1) := by decide +kernel
theorem dX3_standBefore_16 : decode cX3_standBefore 16 = .ok (.istore_n 3, 1) := by decide +kernel
theorem dX3_standBefore_17 : decode cX3_standBefore 17 = .ok (.iload_n 3, 1) := by decide +kernel
theorem dX3_standBefore_18 : decode cX3_standBefore 18 = .ok (.bipush 6, 2) := by decide +kernel
theorem dX3_standBefore_20 : decode cX3_standBefore 20 = .ok (.if_icmp .gt 38, 3) := by decide +kernel
theorem dX3_standBefore_23 : decode cX3_standBefore 23 = .ok (.aload_n 0, 1) := by decide +kernel
theorem dX3_standBefore_24 : decode cX3_standBefore 24 = .ok (.iload_n 3, 1) := by decide +kernel
theorem dX3_standBefore_25 : decode cX3_standBefore 25 = .ok (.invokevirtual 44, 3) := by decide +kernel
theorem dX3_standBefore_28 : decode cX3_standBefore 28 = .ok (.ifCond .eq 24, 3) := by decide +kernel
theorem dX3_standBefore_31 : decode cX3_standBefore 31 = .ok (.aload_n 0, 1) := by decide +kernel
theorem dX3_standBefore_32 : decode cX3_standBefore 32 = .ok (.bipush 6, 2) := by decide +kernel
theorem dX3_standBefore_34 : decode cX3_standBefore 34 = .ok (.iload_n 3, 1) := by decide +kernel
theorem dX3_standBefore_35 : decode cX3_standBefore 35 = .ok (.invokevirtual 90, 3) := by decide +kernel
theorem dX3_standBefore_38 : decode cX3_standBefore 38 = .ok (.iload_n 1, 1) := by decide +kernel
theorem dX3_standBefore_39 : decode cX3_standBefore 39 = .ok (.invokestatic 87, 3) := by decide +kernel
theorem dX3_standBefore_42 : decode cX3_standBefore 42 = .ok (.ifCond .ne 10, 3) := by decide +kernel
theorem dX3_standBefore_45 : decode cX3_standBefore 45 = .ok (.iload_n 2, 1) := by decide +kernel
theorem dX3_standBefore_46 : decode cX3_standBefore 46 = .ok (.iload_n 3, 1) := by decide +kernel
theorem dX3_standBefore_47 : decode cX3_standBefore 47 = .ok (.invokestatic 81, 3) := by decide +kernel
theorem dX3_standBefore_50 : decode cX3_standBefore 50 = .ok (.ior, 1) := by decide +kernel
theorem dX3_standBefore_51 : decode cX3_standBefore 51 = .ok (.istore_n 2, 1) := by decide +kernel
theorem dX3_standBefore_52 : decode cX3_standBefore 52 = .ok (.iinc 3 1, 3) := by decide +kernel
theorem dX3_standBefore_55 : decode cX3_standBefore 55 = .ok (.goto (-38), 3) := by decide +kernel
theorem dX3_standBefore_58 : decode cX3_standBefore 58 = .ok (.iload_n 2, 1) := by decide +kernel
theorem dX3_standBefore_59 : decode cX3_standBefore 59 = .ok (.ireturn, 1) := by decide +kernel
set_option maxRecDepth 20000 in
theorem ggX3_isLawful_X3_ownerOf : GoodIn wsX3_isLawful wsX3_ownerOf := goodIn_r _ [5, 6, 7, 8, 9, 4, 10, 11, 28, 29, 30, 31, 32, 33, 34] (by decide +kernel) (by decide +kernel)
set_option maxRecDepth 20000 in
theorem gX3_isLawful_X3_ownerOf : GoodIn wsX3_isLawful (wsV RX3 100 RX3 yX3_ownerOf wsX3_ownerOf) := goodIn_app (goodIn_of _ (by decide +kernel)) ggX3_isLawful_X3_ownerOf
set_option maxRecDepth 20000 in
theorem ggX3_isLawful_X3_ledTo : GoodIn wsX3_isLawful wsX3_ledTo := goodIn_r _ [15, 16, 17, 18, 19, 20, 21, 4, 22, 23, 24, 25, 26, 27, 28, 29, 30, 31, 32, 33, 34] (by decide +kernel) (by decide +kernel)
set_option maxRecDepth 20000 in
theorem gX3_isLawful_X3_ledTo : GoodIn wsX3_isLawful (wsV RX3 90 RX3 yX3_ledTo wsX3_ledTo) := goodIn_app (goodIn_of _ (by decide +kernel)) ggX3_isLawful_X3_ledTo
set_option maxRecDepth 20000 in
theorem ggX3_isLawful_X4_holds : GoodIn wsX3_isLawful wsX4_holds := goodIn_r _ [27] (by decide +kernel) (by decide +kernel)
set_option maxRecDepth 20000 in
theorem gX3_isLawful_X4_holds_n87 : GoodIn wsX3_isLawful (wsX4_holds) := ggX3_isLawful_X4_holds
theorem dX3_isLawful_0 : decode cX3_isLawful 0 = .ok (.aload_n 0, 1) := by decide +kernel
theorem dX3_isLawful_1 : decode cX3_isLawful 1 = .ok (.bipush 6, 2) := by decide +kernel
theorem dX3_isLawful_3 : decode cX3_isLawful 3 = .ok (.aload_n 0, 1) := by decide +kernel
theorem dX3_isLawful_4 : decode cX3_isLawful 4 = .ok (.iload_n 1, 1) := by decide +kernel
theorem dX3_isLawful_5 : decode cX3_isLawful 5 = .ok (.invokevirtual 100, 3) := by decide +kernel
theorem dX3_isLawful_8 : decode cX3_isLawful 8 = .ok (.invokevirtual 90, 3) := by decide +kernel
theorem dX3_isLawful_11 : decode cX3_isLawful 11 = .ok (.iload_n 1, 1) := by decide +kernel
theorem dX3_isLawful_12 : decode cX3_isLawful 12 = .ok (.invokestatic 87, 3) := by decide +kernel
theorem dX3_isLawful_15 : decode cX3_isLawful 15 = .ok (.ifCond .ne 7, 3) := by decide +kernel
theorem dX3_isLawful_18 : decode cX3_isLawful 18 = .ok (.iconst 1, 1) := by decide +kernel
theorem dX3_isLawful_19 : decode cX3_isLawful 19 = .ok (.goto 4, 3) := by decide +kernel
theorem dX3_isLawful_22 : decode cX3_isLawful 22 = .ok (.iconst 0, 1) := by decide +kernel
theorem dX3_isLawful_23 : decode cX3_isLawful 23 = .ok (.ireturn, 1) := by decide +kernel
set_option maxRecDepth 20000 in
theorem ggX3_notLawful_X3_isLawful : GoodIn wsX3_notLawful wsX3_isLawful := goodIn_r _ [6, 7, 8, 9, 5, 10, 11, 12, 13, 14, 15, 1, 16, 17, 18, 19, 20, 21, 22, 23, 24, 25, 26, 27, 28, 29, 30, 31, 32, 33, 34, 35, 36, 37, 38] (by decide +kernel) (by decide +kernel)
set_option maxRecDepth 20000 in
theorem gX3_notLawful_X3_isLawful : GoodIn wsX3_notLawful (wsV RX3 103 RX3 yX3_isLawful wsX3_isLawful) := goodIn_app (goodIn_of _ (by decide +kernel)) ggX3_notLawful_X3_isLawful
set_option maxRecDepth 20000 in
theorem ggX3_notLawful_X4_bit : GoodIn wsX3_notLawful wsX4_bit := goodIn_r _ [22] (by decide +kernel) (by decide +kernel)
set_option maxRecDepth 20000 in
theorem gX3_notLawful_X4_bit_n81 : GoodIn wsX3_notLawful (wsX4_bit) := ggX3_notLawful_X4_bit
theorem dX3_notLawful_0 : decode cX3_notLawful 0 = .ok (.iconst 0, 1) := by decide +kernel
theorem dX3_notLawful_1 : decode cX3_notLawful 1 = .ok (.istore_n 1, 1) := by decide +kernel
theorem dX3_notLawful_2 : decode cX3_notLawful 2 = .ok (.iconst 0, 1) := by decide +kernel
theorem dX3_notLawful_3 : decode cX3_notLawful 3 = .ok (.istore_n 2, 1) := by decide +kernel
theorem dX3_notLawful_4 : decode cX3_notLawful 4 = .ok (.iload_n 2, 1) := by decide +kernel
theorem dX3_notLawful_5 : decode cX3_notLawful 5 = .ok (.aload_n 0, 1) := by decide +kernel
theorem dX3_notLawful_6 : decode cX3_notLawful 6 = .ok (.getfield 9, 3) := by decide +kernel
theorem dX3_notLawful_9 : decode cX3_notLawful 9 = .ok (.if_icmp .ge 24, 3) := by decide +kernel
theorem dX3_notLawful_12 : decode cX3_notLawful 12 = .ok (.aload_n 0, 1) := by decide +kernel
theorem dX3_notLawful_13 : decode cX3_notLawful 13 = .ok (.iload_n 2, 1) := by decide +kernel
theorem dX3_notLawful_14 : decode cX3_notLawful 14 = .ok (.invokevirtual 103, 3) := by decide +kernel
theorem dX3_notLawful_17 : decode cX3_notLawful 17 = .ok (.ifCond .ne 10, 3) := by decide +kernel
theorem dX3_notLawful_20 : decode cX3_notLawful 20 = .ok (.iload_n 1, 1) := by decide +kernel
theorem dX3_notLawful_21 : decode cX3_notLawful 21 = .ok (.iload_n 2, 1) := by decide +kernel
theorem dX3_notLawful_22 : decode cX3_notLawful 22 = .ok (.invokestatic 81, 3) := by decide +kernel
theorem dX3_notLawful_25 : decode cX3_notLawful 25 = .ok (.ior, 1) := by decide +kernel
theorem dX3_notLawful_26 : decode cX3_notLawful 26 = .ok (.istore_n 1, 1) := by decide +kernel
theorem dX3_notLawful_27 : decode cX3_notLawful 27 = .ok (.iinc 2 1, 3) := by decide +kernel
theorem dX3_notLawful_30 : decode cX3_notLawful 30 = .ok (.goto (-26), 3) := by decide +kernel
theorem dX3_notLawful_33 : decode cX3_notLawful 33 = .ok (.iload_n 1, 1) := by decide +kernel
theorem dX3_notLawful_34 : decode cX3_notLawful 34 = .ok (.ireturn, 1) := by decide +kernel
set_option maxRecDepth 20000 in
theorem ggX3_nearestOf_X3_standBefore : GoodIn wsX3_nearestOf wsX3_standBefore := goodIn_r _ [6, 7, 8, 9, 5, 10, 11, 12, 13, 14, 15, 16, 17, 18, 19, 20, 21, 22, 23, 24, 25, 26, 27, 28, 29, 30, 1, 31, 32, 33, 34, 42, 43, 44, 45, 46, 47, 48] (by decide +kernel) (by decide +kernel)
set_option maxRecDepth 20000 in
theorem gX3_nearestOf_X3_standBefore : GoodIn wsX3_nearestOf (wsV RX3 106 RX3 yX3_standBefore wsX3_standBefore) := goodIn_app (goodIn_of _ (by decide +kernel)) ggX3_nearestOf_X3_standBefore
set_option maxRecDepth 20000 in
theorem ggX3_nearestOf_X4_holds : GoodIn wsX3_nearestOf wsX4_holds := goodIn_r _ [26] (by decide +kernel) (by decide +kernel)
set_option maxRecDepth 20000 in
theorem gX3_nearestOf_X4_holds_n87 : GoodIn wsX3_nearestOf (wsX4_holds) := ggX3_nearestOf_X4_holds
set_option maxRecDepth 20000 in
theorem ggX3_nearestOf_J6_bitCount_0f7a4 : GoodIn wsX3_nearestOf wsJ6_bitCount_0f7a4 := goodIn_r _ [38, 39, 40, 41] (by decide +kernel) (by decide +kernel)
set_option maxRecDepth 20000 in
theorem gX3_nearestOf_J6_bitCount_0f7a4 : GoodIn wsX3_nearestOf (va_wsS RX3 109 yJ6_bitCount_0f7a4 wsJ6_bitCount_0f7a4) := goodIn_app (goodIn_of _ (by decide +kernel)) ggX3_nearestOf_J6_bitCount_0f7a4
theorem dX3_nearestOf_0 : decode cX3_nearestOf 0 = .ok (.aload_n 0, 1) := by decide +kernel
theorem dX3_nearestOf_1 : decode cX3_nearestOf 1 = .ok (.iload_n 1, 1) := by decide +kernel
theorem dX3_nearestOf_2 : decode cX3_nearestOf 2 = .ok (.invokevirtual 106, 3) := by decide +kernel
theorem dX3_nearestOf_5 : decode cX3_nearestOf 5 = .ok (.istore_n 2, 1) := by decide +kernel
theorem dX3_nearestOf_6 : decode cX3_nearestOf 6 = .ok (.bipush 6, 2) := by decide +kernel
theorem dX3_nearestOf_8 : decode cX3_nearestOf 8 = .ok (.istore_n 3, 1) := by decide +kernel
theorem dX3_nearestOf_9 : decode cX3_nearestOf 9 = .ok (.iconst 0, 1) := by decide +kernel
theorem dX3_nearestOf_10 : decode cX3_nearestOf 10 = .ok (.istore 4, 2) := by decide +kernel
theorem dX3_nearestOf_12 : decode cX3_nearestOf 12 = .ok (.iconst 0, 1) := by decide +kernel
theorem dX3_nearestOf_13 : decode cX3_nearestOf 13 = .ok (.istore 5, 2) := by decide +kernel
theorem dX3_nearestOf_15 : decode cX3_nearestOf 15 = .ok (.iload 5, 2) := by decide +kernel
theorem dX3_nearestOf_17 : decode cX3_nearestOf 17 = .ok (.aload_n 0, 1) := by decide +kernel
theorem dX3_nearestOf_18 : decode cX3_nearestOf 18 = .ok (.getfield 9, 3) := by decide +kernel
theorem dX3_nearestOf_21 : decode cX3_nearestOf 21 = .ok (.if_icmp .ge 49, 3) := by decide +kernel
theorem dX3_nearestOf_24 : decode cX3_nearestOf 24 = .ok (.iload 5, 2) := by decide +kernel
theorem dX3_nearestOf_26 : decode cX3_nearestOf 26 = .ok (.iload_n 1, 1) := by decide +kernel
theorem dX3_nearestOf_27 : decode cX3_nearestOf 27 = .ok (.if_icmp .eq 37, 3) := by decide +kernel
theorem dX3_nearestOf_30 : decode cX3_nearestOf 30 = .ok (.iload_n 2, 1) := by decide +kernel
theorem dX3_nearestOf_31 : decode cX3_nearestOf 31 = .ok (.iload 5, 2) := by decide +kernel
theorem dX3_nearestOf_33 : decode cX3_nearestOf 33 = .ok (.invokestatic 87, 3) := by decide +kernel
theorem dX3_nearestOf_36 : decode cX3_nearestOf 36 = .ok (.ifCond .eq 28, 3) := by decide +kernel
theorem dX3_nearestOf_39 : decode cX3_nearestOf 39 = .ok (.aload_n 0, 1) := by decide +kernel
theorem dX3_nearestOf_40 : decode cX3_nearestOf 40 = .ok (.iload 5, 2) := by decide +kernel
theorem dX3_nearestOf_42 : decode cX3_nearestOf 42 = .ok (.invokevirtual 106, 3) := by decide +kernel
theorem dX3_nearestOf_45 : decode cX3_nearestOf 45 = .ok (.invokestatic 109, 3) := by decide +kernel
theorem dX3_nearestOf_48 : decode cX3_nearestOf 48 = .ok (.istore 6, 2) := by decide +kernel
theorem dX3_nearestOf_50 : decode cX3_nearestOf 50 = .ok (.iload 6, 2) := by decide +kernel
theorem dX3_nearestOf_52 : decode cX3_nearestOf 52 = .ok (.iload 4, 2) := by decide +kernel
theorem dX3_nearestOf_54 : decode cX3_nearestOf 54 = .ok (.if_icmp .le 10, 3) := by decide +kernel
theorem dX3_nearestOf_57 : decode cX3_nearestOf 57 = .ok (.iload 6, 2) := by decide +kernel
theorem dX3_nearestOf_59 : decode cX3_nearestOf 59 = .ok (.istore 4, 2) := by decide +kernel
theorem dX3_nearestOf_61 : decode cX3_nearestOf 61 = .ok (.iload 5, 2) := by decide +kernel
theorem dX3_nearestOf_63 : decode cX3_nearestOf 63 = .ok (.istore_n 3, 1) := by decide +kernel
theorem dX3_nearestOf_64 : decode cX3_nearestOf 64 = .ok (.iinc 5 1, 3) := by decide +kernel
theorem dX3_nearestOf_67 : decode cX3_nearestOf 67 = .ok (.goto (-52), 3) := by decide +kernel
theorem dX3_nearestOf_70 : decode cX3_nearestOf 70 = .ok (.iload_n 3, 1) := by decide +kernel
theorem dX3_nearestOf_71 : decode cX3_nearestOf 71 = .ok (.ireturn, 1) := by decide +kernel
set_option maxRecDepth 20000 in
theorem ggX3_findWayPast_X4_bit : GoodIn wsX3_findWayPast wsX4_bit := goodIn_r _ [4] (by decide +kernel) (by decide +kernel)
set_option maxRecDepth 20000 in
theorem gX3_findWayPast_X4_bit_n81 : GoodIn wsX3_findWayPast (wsX4_bit) := ggX3_findWayPast_X4_bit
set_option maxRecDepth 20000 in
theorem ggX3_findWayPast_X3_oneBack : GoodIn wsX3_findWayPast wsX3_oneBack := goodIn_r _ [9, 10, 11, 12, 13, 3, 14, 2, 4, 25, 26, 27, 28, 29, 30, 31] (by decide +kernel) (by decide +kernel)
set_option maxRecDepth 20000 in
theorem gX3_findWayPast_X3_oneBack : GoodIn wsX3_findWayPast (wsV RX3 114 RX3 yX3_oneBack wsX3_oneBack) := goodIn_app (goodIn_of _ (by decide +kernel)) ggX3_findWayPast_X3_oneBack
set_option maxRecDepth 20000 in
theorem ggX3_findWayPast_X3_ownerOf : GoodIn wsX3_findWayPast wsX3_ownerOf := goodIn_r _ [18, 19, 20, 21, 22, 8, 23, 24, 25, 26, 27, 28, 29, 30, 31] (by decide +kernel) (by decide +kernel)
set_option maxRecDepth 20000 in
theorem gX3_findWayPast_X3_ownerOf : GoodIn wsX3_findWayPast (wsV RX3 100 RX3 yX3_ownerOf wsX3_ownerOf) := goodIn_app (goodIn_of _ (by decide +kernel)) ggX3_findWayPast_X3_ownerOf
set_option maxRecDepth 20000 in
theorem ggX3_findWayPast_X4_holds : GoodIn wsX3_findWayPast wsX4_holds := goodIn_r _ [14] (by decide +kernel) (by decide +kernel)
set_option maxRecDepth 20000 in
theorem gX3_findWayPast_X4_holds_n87 : GoodIn wsX3_findWayPast (wsX4_holds) := ggX3_findWayPast_X4_holds
theorem dX3_findWayPast_0 : decode cX3_findWayPast 0 = .ok (.aload_n 0, 1) := by decide +kernel
theorem dX3_findWayPast_1 : decode cX3_findWayPast 1 = .ok (.getfield 31, 3) := by decide +kernel
theorem dX3_findWayPast_4 : decode cX3_findWayPast 4 = .ok (.iconst 0, 1) := by decide +kernel
theorem dX3_findWayPast_5 : decode cX3_findWayPast 5 = .ok (.iload_n 1, 1) := by decide +kernel
theorem dX3_findWayPast_6 : decode cX3_findWayPast 6 = .ok (.invokestatic 81, 3) := by decide +kernel
theorem dX3_findWayPast_9 : decode cX3_findWayPast 9 = .ok (.iastore, 1) := by decide +kernel
theorem dX3_findWayPast_10 : decode cX3_findWayPast 10 = .ok (.iconst 1, 1) := by decide +kernel
theorem dX3_findWayPast_11 : decode cX3_findWayPast 11 = .ok (.istore_n 2, 1) := by decide +kernel
theorem dX3_findWayPast_12 : decode cX3_findWayPast 12 = .ok (.iload_n 2, 1) := by decide +kernel
theorem dX3_findWayPast_13 : decode cX3_findWayPast 13 = .ok (.bipush 6, 2) := by decide +kernel
theorem dX3_findWayPast_15 : decode cX3_findWayPast 15 = .ok (.if_icmp .gt 54, 3) := by decide +kernel
theorem dX3_findWayPast_18 : decode cX3_findWayPast 18 = .ok (.aload_n 0, 1) := by decide +kernel
theorem dX3_findWayPast_19 : decode cX3_findWayPast 19 = .ok (.getfield 31, 3) := by decide +kernel
theorem dX3_findWayPast_22 : decode cX3_findWayPast 22 = .ok (.iload_n 2, 1) := by decide +kernel
theorem dX3_findWayPast_23 : decode cX3_findWayPast 23 = .ok (.aload_n 0, 1) := by decide +kernel
theorem dX3_findWayPast_24 : decode cX3_findWayPast 24 = .ok (.aload_n 0, 1) := by decide +kernel
theorem dX3_findWayPast_25 : decode cX3_findWayPast 25 = .ok (.getfield 31, 3) := by decide +kernel
theorem dX3_findWayPast_28 : decode cX3_findWayPast 28 = .ok (.iload_n 2, 1) := by decide +kernel
theorem dX3_findWayPast_29 : decode cX3_findWayPast 29 = .ok (.iconst 1, 1) := by decide +kernel
theorem dX3_findWayPast_30 : decode cX3_findWayPast 30 = .ok (.isub, 1) := by decide +kernel
theorem dX3_findWayPast_31 : decode cX3_findWayPast 31 = .ok (.iaload, 1) := by decide +kernel
theorem dX3_findWayPast_32 : decode cX3_findWayPast 32 = .ok (.invokevirtual 114, 3) := by decide +kernel
theorem dX3_findWayPast_35 : decode cX3_findWayPast 35 = .ok (.aload_n 0, 1) := by decide +kernel
theorem dX3_findWayPast_36 : decode cX3_findWayPast 36 = .ok (.iload_n 1, 1) := by decide +kernel
theorem dX3_findWayPast_37 : decode cX3_findWayPast 37 = .ok (.invokevirtual 100, 3) := by decide +kernel
theorem dX3_findWayPast_40 : decode cX3_findWayPast 40 = .ok (.invokestatic 81, 3) := by decide +kernel
theorem dX3_findWayPast_43 : decode cX3_findWayPast 43 = .ok (.iconst (-1), 1) := by decide +kernel
theorem dX3_findWayPast_44 : decode cX3_findWayPast 44 = .ok (.ixor, 1) := by decide +kernel
theorem dX3_findWayPast_45 : decode cX3_findWayPast 45 = .ok (.iand, 1) := by decide +kernel
theorem dX3_findWayPast_46 : decode cX3_findWayPast 46 = .ok (.iastore, 1) := by decide +kernel
theorem dX3_findWayPast_47 : decode cX3_findWayPast 47 = .ok (.aload_n 0, 1) := by decide +kernel
theorem dX3_findWayPast_48 : decode cX3_findWayPast 48 = .ok (.getfield 31, 3) := by decide +kernel
theorem dX3_findWayPast_51 : decode cX3_findWayPast 51 = .ok (.iload_n 2, 1) := by decide +kernel
theorem dX3_findWayPast_52 : decode cX3_findWayPast 52 = .ok (.iaload, 1) := by decide +kernel
theorem dX3_findWayPast_53 : decode cX3_findWayPast 53 = .ok (.bipush 6, 2) := by decide +kernel
theorem dX3_findWayPast_55 : decode cX3_findWayPast 55 = .ok (.invokestatic 87, 3) := by decide +kernel
theorem dX3_findWayPast_58 : decode cX3_findWayPast 58 = .ok (.ifCond .eq 5, 3) := by decide +kernel
theorem dX3_findWayPast_61 : decode cX3_findWayPast 61 = .ok (.iload_n 2, 1) := by decide +kernel
theorem dX3_findWayPast_62 : decode cX3_findWayPast 62 = .ok (.ireturn, 1) := by decide +kernel
theorem dX3_findWayPast_63 : decode cX3_findWayPast 63 = .ok (.iinc 2 1, 3) := by decide +kernel
theorem dX3_findWayPast_66 : decode cX3_findWayPast 66 = .ok (.goto (-54), 3) := by decide +kernel
theorem dX3_findWayPast_69 : decode cX3_findWayPast 69 = .ok (.bipush (-9), 2) := by decide +kernel
theorem dX3_findWayPast_71 : decode cX3_findWayPast 71 = .ok (.ireturn, 1) := by decide +kernel
set_option maxRecDepth 20000 in
theorem ggX3_stopOfWayPast_X3_findWayPast : GoodIn wsX3_stopOfWayPast wsX3_findWayPast := goodIn_r _ [6, 1, 7, 8, 9, 10, 11, 12, 5, 13, 14, 15, 16, 17, 18, 19, 20, 21, 22, 23, 24, 25, 26, 27, 28, 41, 42, 43, 44, 45, 46, 47] (by decide +kernel) (by decide +kernel)
set_option maxRecDepth 20000 in
theorem gX3_stopOfWayPast_X3_findWayPast : GoodIn wsX3_stopOfWayPast (wsV RX3 117 RX3 yX3_findWayPast wsX3_findWayPast) := goodIn_app (goodIn_of _ (by decide +kernel)) ggX3_stopOfWayPast_X3_findWayPast
set_option maxRecDepth 20000 in
theorem ggX3_stopOfWayPast_X3_targetsOf : GoodIn wsX3_stopOfWayPast wsX3_targetsOf := goodIn_r _ [32, 7, 8, 9, 33, 34, 35, 5, 36, 14, 16, 15, 17, 18, 41, 42, 43, 44, 45, 46, 47] (by decide +kernel) (by decide +kernel)
set_option maxRecDepth 20000 in
theorem gX3_stopOfWayPast_X3_targetsOf : GoodIn wsX3_stopOfWayPast (wsV RX3 120 RX3 yX3_targetsOf wsX3_targetsOf) := goodIn_app (goodIn_of _ (by decide +kernel)) ggX3_stopOfWayPast_X3_targetsOf
set_option maxRecDepth 20000 in
theorem ggX3_stopOfWayPast_X3_lowestOf : GoodIn wsX3_stopOfWayPast wsX3_lowestOf := goodIn_r _ [40, 28, 17, 8, 18, 41, 42, 43, 44, 45, 46, 47] (by decide +kernel) (by decide +kernel)
set_option maxRecDepth 20000 in
theorem gX3_stopOfWayPast_X3_lowestOf : GoodIn wsX3_stopOfWayPast (wsV RX3 123 RX3 yX3_lowestOf wsX3_lowestOf) := goodIn_app (goodIn_of _ (by decide +kernel)) ggX3_stopOfWayPast_X3_lowestOf
theorem dX3_stopOfWayPast_0 : decode cX3_stopOfWayPast 0 = .ok (.aload_n 0, 1) := by decide +kernel
theorem dX3_stopOfWayPast_1 : decode cX3_stopOfWayPast 1 = .ok (.iload_n 1, 1) := by decide +kernel
theorem dX3_stopOfWayPast_2 : decode cX3_stopOfWayPast 2 = .ok (.invokevirtual 117, 3) := by decide +kernel
theorem dX3_stopOfWayPast_5 : decode cX3_stopOfWayPast 5 = .ok (.istore_n 3, 1) := by decide +kernel
theorem dX3_stopOfWayPast_6 : decode cX3_stopOfWayPast 6 = .ok (.iload_n 2, 1) := by decide +kernel
theorem dX3_stopOfWayPast_7 : decode cX3_stopOfWayPast 7 = .ok (.ifCond .lt 8, 3) := by decide +kernel
theorem dX3_stopOfWayPast_10 : decode cX3_stopOfWayPast 10 = .ok (.iload_n 2, 1) := by decide +kernel
theorem dX3_stopOfWayPast_11 : decode cX3_stopOfWayPast 11 = .ok (.iload_n 3, 1) := by decide +kernel
theorem dX3_stopOfWayPast_12 : decode cX3_stopOfWayPast 12 = .ok (.if_icmp .lt 6, 3) := by decide +kernel
theorem dX3_stopOfWayPast_15 : decode cX3_stopOfWayPast 15 = .ok (.bipush (-9), 2) := by decide +kernel
theorem dX3_stopOfWayPast_17 : decode cX3_stopOfWayPast 17 = .ok (.ireturn, 1) := by decide +kernel
theorem dX3_stopOfWayPast_18 : decode cX3_stopOfWayPast 18 = .ok (.bipush 6, 2) := by decide +kernel
theorem dX3_stopOfWayPast_20 : decode cX3_stopOfWayPast 20 = .ok (.istore 4, 2) := by decide +kernel
theorem dX3_stopOfWayPast_22 : decode cX3_stopOfWayPast 22 = .ok (.iload_n 3, 1) := by decide +kernel
theorem dX3_stopOfWayPast_23 : decode cX3_stopOfWayPast 23 = .ok (.iconst 1, 1) := by decide +kernel
theorem dX3_stopOfWayPast_24 : decode cX3_stopOfWayPast 24 = .ok (.isub, 1) := by decide +kernel
theorem dX3_stopOfWayPast_25 : decode cX3_stopOfWayPast 25 = .ok (.istore 5, 2) := by decide +kernel
theorem dX3_stopOfWayPast_27 : decode cX3_stopOfWayPast 27 = .ok (.iload 5, 2) := by decide +kernel
theorem dX3_stopOfWayPast_29 : decode cX3_stopOfWayPast 29 = .ok (.iload_n 3, 1) := by decide +kernel
theorem dX3_stopOfWayPast_30 : decode cX3_stopOfWayPast 30 = .ok (.iconst 1, 1) := by decide +kernel
theorem dX3_stopOfWayPast_31 : decode cX3_stopOfWayPast 31 = .ok (.isub, 1) := by decide +kernel
theorem dX3_stopOfWayPast_32 : decode cX3_stopOfWayPast 32 = .ok (.iload_n 2, 1) := by decide +kernel
theorem dX3_stopOfWayPast_33 : decode cX3_stopOfWayPast 33 = .ok (.isub, 1) := by decide +kernel
theorem dX3_stopOfWayPast_34 : decode cX3_stopOfWayPast 34 = .ok (.if_icmp .lt 29, 3) := by decide +kernel
theorem dX3_stopOfWayPast_37 : decode cX3_stopOfWayPast 37 = .ok (.aload_n 0, 1) := by decide +kernel
theorem dX3_stopOfWayPast_38 : decode cX3_stopOfWayPast 38 = .ok (.aload_n 0, 1) := by decide +kernel
theorem dX3_stopOfWayPast_39 : decode cX3_stopOfWayPast 39 = .ok (.iload 4, 2) := by decide +kernel
theorem dX3_stopOfWayPast_41 : decode cX3_stopOfWayPast 41 = .ok (.invokevirtual 120, 3) := by decide +kernel
theorem dX3_stopOfWayPast_44 : decode cX3_stopOfWayPast 44 = .ok (.aload_n 0, 1) := by decide +kernel
theorem dX3_stopOfWayPast_45 : decode cX3_stopOfWayPast 45 = .ok (.getfield 31, 3) := by decide +kernel
theorem dX3_stopOfWayPast_48 : decode cX3_stopOfWayPast 48 = .ok (.iload 5, 2) := by decide +kernel
theorem dX3_stopOfWayPast_50 : decode cX3_stopOfWayPast 50 = .ok (.iaload, 1) := by decide +kernel
theorem dX3_stopOfWayPast_51 : decode cX3_stopOfWayPast 51 = .ok (.iand, 1) := by decide +kernel
theorem dX3_stopOfWayPast_52 : decode cX3_stopOfWayPast 52 = .ok (.invokevirtual 123, 3) := by decide +kernel
theorem dX3_stopOfWayPast_55 : decode cX3_stopOfWayPast 55 = .ok (.istore 4, 2) := by decide +kernel
theorem dX3_stopOfWayPast_57 : decode cX3_stopOfWayPast 57 = .ok (.iinc 5 (-1), 3) := by decide +kernel
theorem dX3_stopOfWayPast_60 : decode cX3_stopOfWayPast 60 = .ok (.goto (-33), 3) := by decide +kernel
theorem dX3_stopOfWayPast_63 : decode cX3_stopOfWayPast 63 = .ok (.iload 4, 2) := by decide +kernel
theorem dX3_stopOfWayPast_65 : decode cX3_stopOfWayPast 65 = .ok (.ireturn, 1) := by decide +kernel
set_option maxRecDepth 20000 in
theorem ggX3_lowestOf_X4_holds : GoodIn wsX3_lowestOf wsX4_holds := goodIn_r _ [4] (by decide +kernel) (by decide +kernel)
set_option maxRecDepth 20000 in
theorem gX3_lowestOf_X4_holds_n87 : GoodIn wsX3_lowestOf (wsX4_holds) := ggX3_lowestOf_X4_holds
theorem dX3_lowestOf_0 : decode cX3_lowestOf 0 = .ok (.iconst 0, 1) := by decide +kernel
theorem dX3_lowestOf_1 : decode cX3_lowestOf 1 = .ok (.istore_n 2, 1) := by decide +kernel
theorem dX3_lowestOf_2 : decode cX3_lowestOf 2 = .ok (.iload_n 2, 1) := by decide +kernel
theorem dX3_lowestOf_3 : decode cX3_lowestOf 3 = .ok (.aload_n 0, 1) := by decide +kernel
theorem dX3_lowestOf_4 : decode cX3_lowestOf 4 = .ok (.getfield 9, 3) := by decide +kernel
theorem dX3_lowestOf_7 : decode cX3_lowestOf 7 = .ok (.if_icmp .ge 19, 3) := by decide +kernel
theorem dX3_lowestOf_10 : decode cX3_lowestOf 10 = .ok (.iload_n 1, 1) := by decide +kernel
theorem dX3_lowestOf_11 : decode cX3_lowestOf 11 = .ok (.iload_n 2, 1) := by decide +kernel
theorem dX3_lowestOf_12 : decode cX3_lowestOf 12 = .ok (.invokestatic 87, 3) := by decide +kernel
theorem dX3_lowestOf_15 : decode cX3_lowestOf 15 = .ok (.ifCond .eq 5, 3) := by decide +kernel
theorem dX3_lowestOf_18 : decode cX3_lowestOf 18 = .ok (.iload_n 2, 1) := by decide +kernel
theorem dX3_lowestOf_19 : decode cX3_lowestOf 19 = .ok (.ireturn, 1) := by decide +kernel
theorem dX3_lowestOf_20 : decode cX3_lowestOf 20 = .ok (.iinc 2 1, 3) := by decide +kernel
theorem dX3_lowestOf_23 : decode cX3_lowestOf 23 = .ok (.goto (-21), 3) := by decide +kernel
theorem dX3_lowestOf_26 : decode cX3_lowestOf 26 = .ok (.bipush 7, 2) := by decide +kernel
theorem dX3_lowestOf_28 : decode cX3_lowestOf 28 = .ok (.ireturn, 1) := by decide +kernel
set_option maxRecDepth 20000 in
theorem ggX4_init_X3_init : GoodIn wsX4_init wsX3_init := goodIn_r _ [25, 26, 2, 3, 27, 28, 29, 30, 31, 32, 33, 34, 59, 60, 61, 62, 63, 64, 65] (by decide +kernel) (by decide +kernel)
set_option maxRecDepth 20000 in
theorem gX4_init_X3_init : GoodIn wsX4_init (wsX3_init) := ggX4_init_X3_init
set_option maxRecDepth 20000 in
theorem ggX4_init_X0_init : GoodIn wsX4_init wsX0_init := goodIn_r _ [37, 38, 2, 3, 39, 29, 40, 41, 42, 73, 74, 75, 76] (by decide +kernel) (by decide +kernel)
set_option maxRecDepth 20000 in
theorem gX4_init_X0_init : GoodIn wsX4_init (wsX0_init) := ggX4_init_X0_init
set_option maxRecDepth 20000 in
theorem ggX4_init_X1_init : GoodIn wsX4_init wsX1_init := goodIn_r _ [45, 46, 2, 3, 47, 48, 29, 49, 77, 78, 79] (by decide +kernel) (by decide +kernel)
set_option maxRecDepth 20000 in
theorem gX4_init_X1_init : GoodIn wsX4_init (wsX1_init) := ggX4_init_X1_init
set_option maxRecDepth 20000 in
theorem ggX4_init_X2_init : GoodIn wsX4_init wsX2_init := goodIn_r _ [52, 53, 2, 3, 54, 55, 56, 57, 58, 80, 81, 82, 83, 84] (by decide +kernel) (by decide +kernel)
set_option maxRecDepth 20000 in
theorem gX4_init_X2_init : GoodIn wsX4_init (wsX2_init) := ggX4_init_X2_init
theorem dX4_init_0 : decode cX4_init 0 = .ok (.aload_n 0, 1) := by decide +kernel
theorem dX4_init_1 : decode cX4_init 1 = .ok (.invokespecial 3, 3) := by decide +kernel
theorem dX4_init_4 : decode cX4_init 4 = .ok (.aload_n 0, 1) := by decide +kernel
theorem dX4_init_5 : decode cX4_init 5 = .ok (.new 9, 3) := by decide +kernel
theorem dX4_init_8 : decode cX4_init 8 = .ok (.dup, 1) := by decide +kernel
theorem dX4_init_9 : decode cX4_init 9 = .ok (.invokespecial 11, 3) := by decide +kernel
theorem dX4_init_12 : decode cX4_init 12 = .ok (.putfield 12, 3) := by decide +kernel
theorem dX4_init_15 : decode cX4_init 15 = .ok (.aload_n 0, 1) := by decide +kernel
theorem dX4_init_16 : decode cX4_init 16 = .ok (.new 9, 3) := by decide +kernel
theorem dX4_init_19 : decode cX4_init 19 = .ok (.dup, 1) := by decide +kernel
theorem dX4_init_20 : decode cX4_init 20 = .ok (.invokespecial 11, 3) := by decide +kernel
theorem dX4_init_23 : decode cX4_init 23 = .ok (.putfield 18, 3) := by decide +kernel
theorem dX4_init_26 : decode cX4_init 26 = .ok (.aload_n 0, 1) := by decide +kernel
theorem dX4_init_27 : decode cX4_init 27 = .ok (.new 21, 3) := by decide +kernel
theorem dX4_init_30 : decode cX4_init 30 = .ok (.dup, 1) := by decide +kernel
theorem dX4_init_31 : decode cX4_init 31 = .ok (.invokespecial 23, 3) := by decide +kernel
theorem dX4_init_34 : decode cX4_init 34 = .ok (.putfield 24, 3) := by decide +kernel
theorem dX4_init_37 : decode cX4_init 37 = .ok (.aload_n 0, 1) := by decide +kernel
theorem dX4_init_38 : decode cX4_init 38 = .ok (.iconst 4, 1) := by decide +kernel
theorem dX4_init_39 : decode cX4_init 39 = .ok (.anewarray 28, 3) := by decide +kernel
theorem dX4_init_42 : decode cX4_init 42 = .ok (.putfield 30, 3) := by decide +kernel
theorem dX4_init_45 : decode cX4_init 45 = .ok (.iconst 0, 1) := by decide +kernel
theorem dX4_init_46 : decode cX4_init 46 = .ok (.istore_n 1, 1) := by decide +kernel
theorem dX4_init_47 : decode cX4_init 47 = .ok (.iload_n 1, 1) := by decide +kernel
theorem dX4_init_48 : decode cX4_init 48 = .ok (.iconst 4, 1) := by decide +kernel
theorem dX4_init_49 : decode cX4_init 49 = .ok (.if_icmp .ge 22, 3) := by decide +kernel
theorem dX4_init_52 : decode cX4_init 52 = .ok (.aload_n 0, 1) := by decide +kernel
theorem dX4_init_53 : decode cX4_init 53 = .ok (.getfield 30, 3) := by decide +kernel
theorem dX4_init_56 : decode cX4_init 56 = .ok (.iload_n 1, 1) := by decide +kernel
theorem dX4_init_57 : decode cX4_init 57 = .ok (.new 28, 3) := by decide +kernel
theorem dX4_init_60 : decode cX4_init 60 = .ok (.dup, 1) := by decide +kernel
theorem dX4_init_61 : decode cX4_init 61 = .ok (.invokespecial 34, 3) := by decide +kernel
theorem dX4_init_64 : decode cX4_init 64 = .ok (.aastore, 1) := by decide +kernel
theorem dX4_init_65 : decode cX4_init 65 = .ok (.iinc 1 1, 3) := by decide +kernel
theorem dX4_init_68 : decode cX4_init 68 = .ok (.goto (-21), 3) := by decide +kernel
theorem dX4_init_71 : decode cX4_init 71 = .ok (.aload_n 0, 1) := by decide +kernel
theorem dX4_init_72 : decode cX4_init 72 = .ok (.new 35, 3) := by decide +kernel
theorem dX4_init_75 : decode cX4_init 75 = .ok (.dup, 1) := by decide +kernel
theorem dX4_init_76 : decode cX4_init 76 = .ok (.aload_n 0, 1) := by decide +kernel
theorem dX4_init_77 : decode cX4_init 77 = .ok (.getfield 30, 3) := by decide +kernel
theorem dX4_init_80 : decode cX4_init 80 = .ok (.iconst 0, 1) := by decide +kernel
theorem dX4_init_81 : decode cX4_init 81 = .ok (.aaload, 1) := by decide +kernel
theorem dX4_init_82 : decode cX4_init 82 = .ok (.aload_n 0, 1) := by decide +kernel
theorem dX4_init_83 : decode cX4_init 83 = .ok (.getfield 18, 3) := by decide +kernel
theorem dX4_init_86 : decode cX4_init 86 = .ok (.invokespecial 37, 3) := by decide +kernel
theorem dX4_init_89 : decode cX4_init 89 = .ok (.putfield 40, 3) := by decide +kernel
theorem dX4_init_92 : decode cX4_init 92 = .ok (.aload_n 0, 1) := by decide +kernel
theorem dX4_init_93 : decode cX4_init 93 = .ok (.iconst 0, 1) := by decide +kernel
theorem dX4_init_94 : decode cX4_init 94 = .ok (.putfield 44, 3) := by decide +kernel
theorem dX4_init_97 : decode cX4_init 97 = .ok (.aload_n 0, 1) := by decide +kernel
theorem dX4_init_98 : decode cX4_init 98 = .ok (.iconst 0, 1) := by decide +kernel
theorem dX4_init_99 : decode cX4_init 99 = .ok (.putfield 48, 3) := by decide +kernel
theorem dX4_init_102 : decode cX4_init 102 = .ok (.return_, 1) := by decide +kernel
set_option maxRecDepth 20000 in
theorem ggX4_things_X4_isSheet : GoodIn wsX4_things wsX4_isSheet := goodIn_r _ [10, 11, 12, 9, 13] (by decide +kernel) (by decide +kernel)
set_option maxRecDepth 20000 in
theorem gX4_things_X4_isSheet : GoodIn wsX4_things (va_wsS RX4 51 yX4_isSheet wsX4_isSheet) := goodIn_app (goodIn_of _ (by decide +kernel)) ggX4_things_X4_isSheet
set_option maxRecDepth 20000 in
theorem ggX4_things_X4_isLane : GoodIn wsX4_things wsX4_isLane := goodIn_r _ [16, 11, 12, 9, 13] (by decide +kernel) (by decide +kernel)
set_option maxRecDepth 20000 in
theorem gX4_things_X4_isLane : GoodIn wsX4_things (va_wsS RX4 55 yX4_isLane wsX4_isLane) := goodIn_app (goodIn_of _ (by decide +kernel)) ggX4_things_X4_isLane
set_option maxRecDepth 20000 in
theorem ggX4_things_X1_rowFault : GoodIn wsX4_things wsX1_rowFault := goodIn_r _ [21, 22, 23, 24, 25, 20, 26, 27, 28, 29, 30, 31, 139, 140, 141] (by decide +kernel) (by decide +kernel)
set_option maxRecDepth 20000 in
theorem gX4_things_X1_rowFault : GoodIn wsX4_things (wsV RX4 58 RX1 yX1_rowFault wsX1_rowFault) := goodIn_app (goodIn_of _ (by decide +kernel)) ggX4_things_X1_rowFault
set_option maxRecDepth 20000 in
theorem ggX4_things_X4_failed : GoodIn wsX4_things wsX4_failed := goodIn_r _ [35, 1, 132, 133, 134, 135, 136, 137, 138] (by decide +kernel) (by decide +kernel)
set_option maxRecDepth 20000 in
theorem gX4_things_X4_failed : GoodIn wsX4_things (wsV RX4 62 RX4 yX4_failed wsX4_failed) := goodIn_app (goodIn_of _ (by decide +kernel)) ggX4_things_X4_failed
set_option maxRecDepth 20000 in
theorem ggX4_things_X2_firstFault : GoodIn wsX4_things wsX2_firstFault := goodIn_r _ [40, 41, 42, 43, 44, 45, 46, 47, 48, 49, 50, 51, 52, 53, 54, 55, 39, 56, 57, 58, 59, 60, 61, 62, 63, 20, 64, 27, 65, 66, 67, 68, 69, 70, 71, 72, 73, 74, 75, 76, 77, 78, 79, 80, 81, 82, 83, 84, 85, 86, 87, 88, 89, 90, 91, 92, 93, 94, 95, 96, 97, 98, 99, 100, 101, 102, 103, 104, 105, 106, 107, 108, 109, 142, 143, 144, 145, 146, 147, 148, 149, 150, 151, 152, 153, 139, 140, 141] (by decide +kernel) (by decide +kernel)
set_option maxRecDepth 20000 in
theorem gX4_things_X2_firstFault : GoodIn wsX4_things (wsV RX4 66 RX2 yX2_firstFault wsX2_firstFault) := goodIn_app (goodIn_of _ (by decide +kernel)) ggX4_things_X2_firstFault
set_option maxRecDepth 20000 in
theorem ggX4_things_X3_become : GoodIn wsX4_things wsX3_become := goodIn_r _ [113, 51, 52, 90, 114, 115, 116, 117, 91, 104, 105, 147, 148, 149, 150, 151, 152, 153] (by decide +kernel) (by decide +kernel)
set_option maxRecDepth 20000 in
theorem gX4_things_X3_become : GoodIn wsX4_things (wsV RX4 70 RX3 yX3_become wsX3_become) := goodIn_app (goodIn_of _ (by decide +kernel)) ggX4_things_X3_become
set_option maxRecDepth 20000 in
theorem ggX4_things_X0_size : GoodIn wsX4_things wsX0_size := goodIn_r _ [122, 123, 154, 155, 156, 157] (by decide +kernel) (by decide +kernel)
set_option maxRecDepth 20000 in
theorem gX4_things_X0_size : GoodIn wsX4_things (wsV RX4 74 RX0 yX0_size wsX0_size) := goodIn_app (goodIn_of _ (by decide +kernel)) ggX4_things_X0_size
set_option maxRecDepth 20000 in
theorem ggX4_things_X0_dropLast : GoodIn wsX4_things wsX0_dropLast := goodIn_r _ [127, 123, 154, 155, 156, 157] (by decide +kernel) (by decide +kernel)
set_option maxRecDepth 20000 in
theorem gX4_things_X0_dropLast : GoodIn wsX4_things (wsV RX4 78 RX0 yX0_dropLast wsX0_dropLast) := goodIn_app (goodIn_of _ (by decide +kernel)) ggX4_things_X0_dropLast
set_option maxRecDepth 20000 in
theorem ggX4_things_X3_size : GoodIn wsX4_things wsX3_size := goodIn_r _ [131, 51, 147, 148, 149, 150, 151, 152, 153] (by decide +kernel) (by decide +kernel)
set_option maxRecDepth 20000 in
theorem gX4_things_X3_size : GoodIn wsX4_things (wsV RX4 82 RX3 yX3_size wsX3_size) := goodIn_app (goodIn_of _ (by decide +kernel)) ggX4_things_X3_size
theorem dX4_things_0 : decode cX4_things 0 = .ok (.aload_n 0, 1) := by decide +kernel
theorem dX4_things_1 : decode cX4_things 1 = .ok (.iconst 0, 1) := by decide +kernel
theorem dX4_things_2 : decode cX4_things 2 = .ok (.putfield 48, 3) := by decide +kernel
theorem dX4_things_5 : decode cX4_things 5 = .ok (.iload_n 1, 1) := by decide +kernel
theorem dX4_things_6 : decode cX4_things 6 = .ok (.invokestatic 51, 3) := by decide +kernel
theorem dX4_things_9 : decode cX4_things 9 = .ok (.ifCond .ne 5, 3) := by decide +kernel
theorem dX4_things_12 : decode cX4_things 12 = .ok (.iconst (-1), 1) := by decide +kernel
theorem dX4_things_13 : decode cX4_things 13 = .ok (.ireturn, 1) := by decide +kernel
theorem dX4_things_14 : decode cX4_things 14 = .ok (.iload_n 2, 1) := by decide +kernel
theorem dX4_things_15 : decode cX4_things 15 = .ok (.invokestatic 55, 3) := by decide +kernel
theorem dX4_things_18 : decode cX4_things 18 = .ok (.ifCond .ne 6, 3) := by decide +kernel
theorem dX4_things_21 : decode cX4_things 21 = .ok (.bipush (-2), 2) := by decide +kernel
theorem dX4_things_23 : decode cX4_things 23 = .ok (.ireturn, 1) := by decide +kernel
theorem dX4_things_24 : decode cX4_things 24 = .ok (.aload_n 0, 1) := by decide +kernel
theorem dX4_things_25 : decode cX4_things 25 = .ok (.getfield 30, 3) := by decide +kernel
theorem dX4_things_28 : decode cX4_things 28 = .ok (.iload_n 1, 1) := by decide +kernel
theorem dX4_things_29 : decode cX4_things 29 = .ok (.aaload, 1) := by decide +kernel
theorem dX4_things_30 : decode cX4_things 30 = .ok (.iload_n 2, 1) := by decide +kernel
theorem dX4_things_31 : decode cX4_things 31 = .ok (.iload_n 3, 1) := by decide +kernel
theorem dX4_things_32 : decode cX4_things 32 = .ok (.iload 4, 2) := by decide +kernel
theorem dX4_things_34 : decode cX4_things 34 = .ok (.invokevirtual 58, 3) := by decide +kernel
theorem dX4_things_37 : decode cX4_things 37 = .ok (.istore 5, 2) := by decide +kernel
theorem dX4_things_39 : decode cX4_things 39 = .ok (.iload 5, 2) := by decide +kernel
theorem dX4_things_41 : decode cX4_things 41 = .ok (.ifCond .eq 10, 3) := by decide +kernel
theorem dX4_things_44 : decode cX4_things 44 = .ok (.aload_n 0, 1) := by decide +kernel
theorem dX4_things_45 : decode cX4_things 45 = .ok (.iload 5, 2) := by decide +kernel
theorem dX4_things_47 : decode cX4_things 47 = .ok (.invokevirtual 62, 3) := by decide +kernel
theorem dX4_things_50 : decode cX4_things 50 = .ok (.ireturn, 1) := by decide +kernel
theorem dX4_things_51 : decode cX4_things 51 = .ok (.aload_n 0, 1) := by decide +kernel
theorem dX4_things_52 : decode cX4_things 52 = .ok (.getfield 40, 3) := by decide +kernel
theorem dX4_things_55 : decode cX4_things 55 = .ok (.aload_n 0, 1) := by decide +kernel
theorem dX4_things_56 : decode cX4_things 56 = .ok (.getfield 30, 3) := by decide +kernel
theorem dX4_things_59 : decode cX4_things 59 = .ok (.iload_n 1, 1) := by decide +kernel
theorem dX4_things_60 : decode cX4_things 60 = .ok (.aaload, 1) := by decide +kernel
theorem dX4_things_61 : decode cX4_things 61 = .ok (.iload_n 3, 1) := by decide +kernel
theorem dX4_things_62 : decode cX4_things 62 = .ok (.iload 4, 2) := by decide +kernel
theorem dX4_things_64 : decode cX4_things 64 = .ok (.invokevirtual 66, 3) := by decide +kernel
theorem dX4_things_67 : decode cX4_things 67 = .ok (.istore 6, 2) := by decide +kernel
theorem dX4_things_69 : decode cX4_things 69 = .ok (.iload 6, 2) := by decide +kernel
theorem dX4_things_71 : decode cX4_things 71 = .ok (.iconst (-1), 1) := by decide +kernel
theorem dX4_things_72 : decode cX4_things 72 = .ok (.if_icmp .eq 9, 3) := by decide +kernel
theorem dX4_things_75 : decode cX4_things 75 = .ok (.bipush (-100), 2) := by decide +kernel
theorem dX4_things_77 : decode cX4_things 77 = .ok (.iload 6, 2) := by decide +kernel
theorem dX4_things_79 : decode cX4_things 79 = .ok (.isub, 1) := by decide +kernel
theorem dX4_things_80 : decode cX4_things 80 = .ok (.ireturn, 1) := by decide +kernel
theorem dX4_things_81 : decode cX4_things 81 = .ok (.aload_n 0, 1) := by decide +kernel
theorem dX4_things_82 : decode cX4_things 82 = .ok (.getfield 12, 3) := by decide +kernel
theorem dX4_things_85 : decode cX4_things 85 = .ok (.aload_n 0, 1) := by decide +kernel
theorem dX4_things_86 : decode cX4_things 86 = .ok (.getfield 18, 3) := by decide +kernel
theorem dX4_things_89 : decode cX4_things 89 = .ok (.invokevirtual 70, 3) := by decide +kernel
theorem dX4_things_92 : decode cX4_things 92 = .ok (.aload_n 0, 1) := by decide +kernel
theorem dX4_things_93 : decode cX4_things 93 = .ok (.getfield 24, 3) := by decide +kernel
theorem dX4_things_96 : decode cX4_things 96 = .ok (.aload_n 0, 1) := by decide +kernel
theorem dX4_things_97 : decode cX4_things 97 = .ok (.getfield 24, 3) := by decide +kernel
theorem dX4_things_100 : decode cX4_things 100 = .ok (.invokevirtual 74, 3) := by decide +kernel
theorem dX4_things_103 : decode cX4_things 103 = .ok (.invokevirtual 78, 3) := by decide +kernel
theorem dX4_things_106 : decode cX4_things 106 = .ok (.aload_n 0, 1) := by decide +kernel
theorem dX4_things_107 : decode cX4_things 107 = .ok (.getfield 12, 3) := by decide +kernel
theorem dX4_things_110 : decode cX4_things 110 = .ok (.invokevirtual 82, 3) := by decide +kernel
theorem dX4_things_113 : decode cX4_things 113 = .ok (.ireturn, 1) := by decide +kernel
set_option maxRecDepth 20000 in
theorem ggX4_ofThing_X3_isThing : GoodIn wsX4_ofThing wsX3_isThing := goodIn_r _ [6, 7, 99, 100, 101, 102, 103, 104, 105] (by decide +kernel) (by decide +kernel)
set_option maxRecDepth 20000 in
theorem gX4_ofThing_X3_isThing : GoodIn wsX4_ofThing (wsV RX4 83 RX3 yX3_isThing wsX3_isThing) := goodIn_app (goodIn_of _ (by decide +kernel)) ggX4_ofThing_X3_isThing
set_option maxRecDepth 20000 in
theorem ggX4_ofThing_X3_kindOf : GoodIn wsX4_ofThing wsX3_kindOf := goodIn_r _ [11, 12, 13, 3, 4, 5, 6, 7, 99, 100, 101, 102, 103, 104, 105] (by decide +kernel) (by decide +kernel)
set_option maxRecDepth 20000 in
theorem gX4_ofThing_X3_kindOf : GoodIn wsX4_ofThing (wsV RX4 86 RX3 yX3_kindOf wsX3_kindOf) := goodIn_app (goodIn_of _ (by decide +kernel)) ggX4_ofThing_X3_kindOf
set_option maxRecDepth 20000 in
theorem ggX4_ofThing_X3_ownerOf : GoodIn wsX4_ofThing wsX3_ownerOf := goodIn_r _ [17, 18, 13, 3, 4, 5, 6, 7, 99, 100, 101, 102, 103, 104, 105] (by decide +kernel) (by decide +kernel)
set_option maxRecDepth 20000 in
theorem gX4_ofThing_X3_ownerOf : GoodIn wsX4_ofThing (wsV RX4 89 RX3 yX3_ownerOf wsX3_ownerOf) := goodIn_app (goodIn_of _ (by decide +kernel)) ggX4_ofThing_X3_ownerOf
set_option maxRecDepth 20000 in
theorem ggX4_ofThing_X3_levelOf : GoodIn wsX4_ofThing wsX3_levelOf := goodIn_r _ [22, 18, 13, 3, 4, 5, 6, 7, 99, 100, 101, 102, 103, 104, 105] (by decide +kernel) (by decide +kernel)
set_option maxRecDepth 20000 in
theorem gX4_ofThing_X3_levelOf : GoodIn wsX4_ofThing (wsV RX4 92 RX3 yX3_levelOf wsX3_levelOf) := goodIn_app (goodIn_of _ (by decide +kernel)) ggX4_ofThing_X3_levelOf
set_option maxRecDepth 20000 in
theorem ggX4_ofThing_X3_lockOf : GoodIn wsX4_ofThing wsX3_lockOf := goodIn_r _ [26, 27, 20, 21, 5, 22, 18, 13, 3, 4, 6, 7, 28, 9, 10, 11, 12, 99, 100, 101, 102, 103, 104, 105] (by decide +kernel) (by decide +kernel)
set_option maxRecDepth 20000 in
theorem gX4_ofThing_X3_lockOf : GoodIn wsX4_ofThing (wsV RX4 95 RX3 yX3_lockOf wsX3_lockOf) := goodIn_app (goodIn_of _ (by decide +kernel)) ggX4_ofThing_X3_lockOf
set_option maxRecDepth 20000 in
theorem ggX4_ofThing_X3_targetsOf : GoodIn wsX4_ofThing wsX3_targetsOf := goodIn_r _ [32, 33, 34, 35, 36, 37, 38, 5, 39, 40, 41, 42, 43, 44, 99, 100, 101, 102, 103, 104, 105] (by decide +kernel) (by decide +kernel)
set_option maxRecDepth 20000 in
theorem gX4_ofThing_X3_targetsOf : GoodIn wsX4_ofThing (wsV RX4 98 RX3 yX3_targetsOf wsX3_targetsOf) := goodIn_app (goodIn_of _ (by decide +kernel)) ggX4_ofThing_X3_targetsOf
set_option maxRecDepth 20000 in
theorem ggX4_ofThing_X3_reached : GoodIn wsX4_ofThing wsX3_reached := goodIn_r _ [48, 49, 50, 51, 5, 52, 33, 34, 35, 36, 37, 38, 39, 40, 41, 42, 43, 44, 99, 100, 101, 102, 103, 104, 105] (by decide +kernel) (by decide +kernel)
set_option maxRecDepth 20000 in
theorem gX4_ofThing_X3_reached : GoodIn wsX4_ofThing (wsV RX4 101 RX3 yX3_reached wsX3_reached) := goodIn_app (goodIn_of _ (by decide +kernel)) ggX4_ofThing_X3_reached
set_option maxRecDepth 20000 in
theorem ggX4_ofThing_X4_holds : GoodIn wsX4_ofThing wsX4_holds := goodIn_r _ [44] (by decide +kernel) (by decide +kernel)
set_option maxRecDepth 20000 in
theorem gX4_ofThing_X4_holds : GoodIn wsX4_ofThing (va_wsS RX4 104 yX4_holds wsX4_holds) := goodIn_app (goodIn_of _ (by decide +kernel)) ggX4_ofThing_X4_holds
set_option maxRecDepth 20000 in
theorem ggX4_ofThing_X4_oneIf : GoodIn wsX4_ofThing wsX4_oneIf := goodIn_r _ [56] (by decide +kernel) (by decide +kernel)
set_option maxRecDepth 20000 in
theorem gX4_ofThing_X4_oneIf : GoodIn wsX4_ofThing (va_wsS RX4 108 yX4_oneIf wsX4_oneIf) := goodIn_app (goodIn_of _ (by decide +kernel)) ggX4_ofThing_X4_oneIf
set_option maxRecDepth 20000 in
theorem ggX4_ofThing_X3_standBefore : GoodIn wsX4_ofThing wsX3_standBefore := goodIn_r _ [60, 61, 46, 47, 5, 48, 49, 50, 51, 52, 33, 34, 35, 36, 37, 38, 39, 40, 41, 42, 43, 44, 62, 63, 64, 65, 7, 13, 3, 4, 6, 99, 100, 101, 102, 103, 104, 105] (by decide +kernel) (by decide +kernel)
set_option maxRecDepth 20000 in
theorem gX4_ofThing_X3_standBefore : GoodIn wsX4_ofThing (wsV RX4 112 RX3 yX3_standBefore wsX3_standBefore) := goodIn_app (goodIn_of _ (by decide +kernel)) ggX4_ofThing_X3_standBefore
set_option maxRecDepth 20000 in
theorem ggX4_ofThing_X3_isLawful : GoodIn wsX4_ofThing wsX3_isLawful := goodIn_r _ [69, 70, 15, 16, 5, 17, 18, 13, 3, 4, 6, 7, 49, 50, 51, 52, 33, 34, 35, 36, 37, 38, 39, 40, 41, 42, 43, 44, 99, 100, 101, 102, 103, 104, 105] (by decide +kernel) (by decide +kernel)
set_option maxRecDepth 20000 in
theorem gX4_ofThing_X3_isLawful : GoodIn wsX4_ofThing (wsV RX4 115 RX3 yX3_isLawful wsX3_isLawful) := goodIn_app (goodIn_of _ (by decide +kernel)) ggX4_ofThing_X3_isLawful
set_option maxRecDepth 20000 in
theorem ggX4_ofThing_X3_nearestOf : GoodIn wsX4_ofThing wsX3_nearestOf := goodIn_r _ [74, 7, 75, 58, 59, 5, 60, 61, 46, 47, 48, 49, 50, 51, 52, 33, 34, 35, 36, 37, 38, 39, 40, 41, 42, 43, 44, 62, 63, 64, 65, 13, 3, 4, 6, 76, 77, 78, 79, 80, 81, 82, 99, 100, 101, 102, 103, 104, 105] (by decide +kernel) (by decide +kernel)
set_option maxRecDepth 20000 in
theorem gX4_ofThing_X3_nearestOf : GoodIn wsX4_ofThing (wsV RX4 118 RX3 yX3_nearestOf wsX3_nearestOf) := goodIn_app (goodIn_of _ (by decide +kernel)) ggX4_ofThing_X3_nearestOf
set_option maxRecDepth 20000 in
theorem ggX4_ofThing_X3_tailOf : GoodIn wsX4_ofThing wsX3_tailOf := goodIn_r _ [86, 49, 50, 51, 5, 52, 33, 34, 35, 36, 37, 38, 39, 40, 41, 42, 43, 44, 99, 100, 101, 102, 103, 104, 105] (by decide +kernel) (by decide +kernel)
set_option maxRecDepth 20000 in
theorem gX4_ofThing_X3_tailOf : GoodIn wsX4_ofThing (wsV RX4 121 RX3 yX3_tailOf wsX3_tailOf) := goodIn_app (goodIn_of _ (by decide +kernel)) ggX4_ofThing_X3_tailOf
set_option maxRecDepth 20000 in
theorem ggX4_ofThing_X3_isClosed : GoodIn wsX4_ofThing wsX3_isClosed := goodIn_r _ [90, 40, 41, 42, 91, 84, 85, 5, 86, 49, 50, 51, 52, 33, 34, 35, 36, 37, 38, 39, 43, 44, 99, 100, 101, 102, 103, 104, 105] (by decide +kernel) (by decide +kernel)
set_option maxRecDepth 20000 in
theorem gX4_ofThing_X3_isClosed : GoodIn wsX4_ofThing (wsV RX4 124 RX3 yX3_isClosed wsX3_isClosed) := goodIn_app (goodIn_of _ (by decide +kernel)) ggX4_ofThing_X3_isClosed
theorem dX4_ofThing_0 : decode cX4_ofThing 0 = .ok (.aload_n 0, 1) := by decide +kernel
theorem dX4_ofThing_1 : decode cX4_ofThing 1 = .ok (.getfield 12, 3) := by decide +kernel
theorem dX4_ofThing_4 : decode cX4_ofThing 4 = .ok (.iload_n 1, 1) := by decide +kernel
theorem dX4_ofThing_5 : decode cX4_ofThing 5 = .ok (.invokevirtual 83, 3) := by decide +kernel
theorem dX4_ofThing_8 : decode cX4_ofThing 8 = .ok (.ifCond .ne 5, 3) := by decide +kernel
theorem dX4_ofThing_11 : decode cX4_ofThing 11 = .ok (.iconst (-1), 1) := by decide +kernel
theorem dX4_ofThing_12 : decode cX4_ofThing 12 = .ok (.ireturn, 1) := by decide +kernel
theorem dX4_ofThing_13 : decode cX4_ofThing 13 = .ok (.iload_n 2, 1) := by decide +kernel
theorem dX4_ofThing_14 : decode cX4_ofThing 14 = .ok (.tableswitch 169 0 10 #[58, 67, 76, 85, 94, 103, 118, 127, 139, 148, 157], 58) := by decide +kernel
theorem dX4_ofThing_72 : decode cX4_ofThing 72 = .ok (.aload_n 0, 1) := by decide +kernel
theorem dX4_ofThing_73 : decode cX4_ofThing 73 = .ok (.getfield 12, 3) := by decide +kernel
theorem dX4_ofThing_76 : decode cX4_ofThing 76 = .ok (.iload_n 1, 1) := by decide +kernel
theorem dX4_ofThing_77 : decode cX4_ofThing 77 = .ok (.invokevirtual 86, 3) := by decide +kernel
theorem dX4_ofThing_80 : decode cX4_ofThing 80 = .ok (.ireturn, 1) := by decide +kernel
theorem dX4_ofThing_81 : decode cX4_ofThing 81 = .ok (.aload_n 0, 1) := by decide +kernel
theorem dX4_ofThing_82 : decode cX4_ofThing 82 = .ok (.getfield 12, 3) := by decide +kernel
theorem dX4_ofThing_85 : decode cX4_ofThing 85 = .ok (.iload_n 1, 1) := by decide +kernel
theorem dX4_ofThing_86 : decode cX4_ofThing 86 = .ok (.invokevirtual 89, 3) := by decide +kernel
theorem dX4_ofThing_89 : decode cX4_ofThing 89 = .ok (.ireturn, 1) := by decide +kernel
theorem dX4_ofThing_90 : decode cX4_ofThing 90 = .ok (.aload_n 0, 1) := by decide +kernel
theorem dX4_ofThing_91 : decode cX4_ofThing 91 = .ok (.getfield 12, 3) := by decide +kernel
theorem dX4_ofThing_94 : decode cX4_ofThing 94 = .ok (.iload_n 1, 1) := by decide +kernel
theorem dX4_ofThing_95 : decode cX4_ofThing 95 = .ok (.invokevirtual 92, 3) := by decide +kernel
theorem dX4_ofThing_98 : decode cX4_ofThing 98 = .ok (.ireturn, 1) := by decide +kernel
theorem dX4_ofThing_99 : decode cX4_ofThing 99 = .ok (.aload_n 0, 1) := by decide +kernel
theorem dX4_ofThing_100 : decode cX4_ofThing 100 = .ok (.getfield 12, 3) := by decide +kernel
theorem dX4_ofThing_103 : decode cX4_ofThing 103 = .ok (.iload_n 1, 1) := by decide +kernel
theorem dX4_ofThing_104 : decode cX4_ofThing 104 = .ok (.invokevirtual 95, 3) := by decide +kernel
theorem dX4_ofThing_107 : decode cX4_ofThing 107 = .ok (.ireturn, 1) := by decide +kernel
theorem dX4_ofThing_108 : decode cX4_ofThing 108 = .ok (.aload_n 0, 1) := by decide +kernel
theorem dX4_ofThing_109 : decode cX4_ofThing 109 = .ok (.getfield 12, 3) := by decide +kernel
theorem dX4_ofThing_112 : decode cX4_ofThing 112 = .ok (.iload_n 1, 1) := by decide +kernel
theorem dX4_ofThing_113 : decode cX4_ofThing 113 = .ok (.invokevirtual 98, 3) := by decide +kernel
theorem dX4_ofThing_116 : decode cX4_ofThing 116 = .ok (.ireturn, 1) := by decide +kernel
theorem dX4_ofThing_117 : decode cX4_ofThing 117 = .ok (.aload_n 0, 1) := by decide +kernel
theorem dX4_ofThing_118 : decode cX4_ofThing 118 = .ok (.getfield 12, 3) := by decide +kernel
theorem dX4_ofThing_121 : decode cX4_ofThing 121 = .ok (.invokevirtual 101, 3) := by decide +kernel
theorem dX4_ofThing_124 : decode cX4_ofThing 124 = .ok (.iload_n 1, 1) := by decide +kernel
theorem dX4_ofThing_125 : decode cX4_ofThing 125 = .ok (.invokestatic 104, 3) := by decide +kernel
theorem dX4_ofThing_128 : decode cX4_ofThing 128 = .ok (.invokestatic 108, 3) := by decide +kernel
theorem dX4_ofThing_131 : decode cX4_ofThing 131 = .ok (.ireturn, 1) := by decide +kernel
theorem dX4_ofThing_132 : decode cX4_ofThing 132 = .ok (.aload_n 0, 1) := by decide +kernel
theorem dX4_ofThing_133 : decode cX4_ofThing 133 = .ok (.getfield 12, 3) := by decide +kernel
theorem dX4_ofThing_136 : decode cX4_ofThing 136 = .ok (.iload_n 1, 1) := by decide +kernel
theorem dX4_ofThing_137 : decode cX4_ofThing 137 = .ok (.invokevirtual 112, 3) := by decide +kernel
theorem dX4_ofThing_140 : decode cX4_ofThing 140 = .ok (.ireturn, 1) := by decide +kernel
theorem dX4_ofThing_141 : decode cX4_ofThing 141 = .ok (.aload_n 0, 1) := by decide +kernel
theorem dX4_ofThing_142 : decode cX4_ofThing 142 = .ok (.getfield 12, 3) := by decide +kernel
theorem dX4_ofThing_145 : decode cX4_ofThing 145 = .ok (.iload_n 1, 1) := by decide +kernel
theorem dX4_ofThing_146 : decode cX4_ofThing 146 = .ok (.invokevirtual 115, 3) := by decide +kernel
theorem dX4_ofThing_149 : decode cX4_ofThing 149 = .ok (.invokestatic 108, 3) := by decide +kernel
theorem dX4_ofThing_152 : decode cX4_ofThing 152 = .ok (.ireturn, 1) := by decide +kernel
theorem dX4_ofThing_153 : decode cX4_ofThing 153 = .ok (.aload_n 0, 1) := by decide +kernel
theorem dX4_ofThing_154 : decode cX4_ofThing 154 = .ok (.getfield 12, 3) := by decide +kernel
theorem dX4_ofThing_157 : decode cX4_ofThing 157 = .ok (.iload_n 1, 1) := by decide +kernel
theorem dX4_ofThing_158 : decode cX4_ofThing 158 = .ok (.invokevirtual 118, 3) := by decide +kernel
theorem dX4_ofThing_161 : decode cX4_ofThing 161 = .ok (.ireturn, 1) := by decide +kernel
theorem dX4_ofThing_162 : decode cX4_ofThing 162 = .ok (.aload_n 0, 1) := by decide +kernel
theorem dX4_ofThing_163 : decode cX4_ofThing 163 = .ok (.getfield 12, 3) := by decide +kernel
theorem dX4_ofThing_166 : decode cX4_ofThing 166 = .ok (.iload_n 1, 1) := by decide +kernel
theorem dX4_ofThing_167 : decode cX4_ofThing 167 = .ok (.invokevirtual 121, 3) := by decide +kernel
theorem dX4_ofThing_170 : decode cX4_ofThing 170 = .ok (.ireturn, 1) := by decide +kernel
theorem dX4_ofThing_171 : decode cX4_ofThing 171 = .ok (.aload_n 0, 1) := by decide +kernel
theorem dX4_ofThing_172 : decode cX4_ofThing 172 = .ok (.getfield 12, 3) := by decide +kernel
theorem dX4_ofThing_175 : decode cX4_ofThing 175 = .ok (.iload_n 1, 1) := by decide +kernel
theorem dX4_ofThing_176 : decode cX4_ofThing 176 = .ok (.invokevirtual 124, 3) := by decide +kernel
theorem dX4_ofThing_179 : decode cX4_ofThing 179 = .ok (.invokestatic 108, 3) := by decide +kernel
theorem dX4_ofThing_182 : decode cX4_ofThing 182 = .ok (.ireturn, 1) := by decide +kernel
theorem dX4_ofThing_183 : decode cX4_ofThing 183 = .ok (.bipush (-2), 2) := by decide +kernel
theorem dX4_ofThing_185 : decode cX4_ofThing 185 = .ok (.ireturn, 1) := by decide +kernel
set_option maxRecDepth 20000 in
theorem ggX4_refers_X3_mayOwn : GoodIn wsX4_refers wsX3_mayOwn := goodIn_r _ [6, 7, 8, 9, 10, 5, 11, 31, 32, 33, 34, 35, 36, 37] (by decide +kernel) (by decide +kernel)
set_option maxRecDepth 20000 in
theorem gX4_refers_X3_mayOwn : GoodIn wsX4_refers (wsV RX4 127 RX3 yX3_mayOwn wsX3_mayOwn) := goodIn_app (goodIn_of _ (by decide +kernel)) ggX4_refers_X3_mayOwn
set_option maxRecDepth 20000 in
theorem ggX4_refers_X3_isThing : GoodIn wsX4_refers wsX3_isThing := goodIn_r _ [11, 7, 31, 32, 33, 34, 35, 36, 37] (by decide +kernel) (by decide +kernel)
set_option maxRecDepth 20000 in
theorem gX4_refers_X3_isThing : GoodIn wsX4_refers (wsV RX4 83 RX3 yX3_isThing wsX3_isThing) := goodIn_app (goodIn_of _ (by decide +kernel)) ggX4_refers_X3_isThing
set_option maxRecDepth 20000 in
theorem ggX4_refers_X3_find : GoodIn wsX4_refers wsX3_find := goodIn_r _ [16, 17, 18, 19, 31, 32, 33, 34, 35, 36, 37] (by decide +kernel) (by decide +kernel)
set_option maxRecDepth 20000 in
theorem gX4_refers_X3_find : GoodIn wsX4_refers (wsV RX4 130 RX3 yX3_find wsX3_find) := goodIn_app (goodIn_of _ (by decide +kernel)) ggX4_refers_X3_find
set_option maxRecDepth 20000 in
theorem ggX4_refers_X4_oneIf : GoodIn wsX4_refers wsX4_oneIf := goodIn_r _ [23] (by decide +kernel) (by decide +kernel)
set_option maxRecDepth 20000 in
theorem gX4_refers_X4_oneIf : GoodIn wsX4_refers (va_wsS RX4 108 yX4_oneIf wsX4_oneIf) := goodIn_app (goodIn_of _ (by decide +kernel)) ggX4_refers_X4_oneIf
theorem dX4_refers_0 : decode cX4_refers 0 = .ok (.aload_n 0, 1) := by decide +kernel
theorem dX4_refers_1 : decode cX4_refers 1 = .ok (.getfield 12, 3) := by decide +kernel
theorem dX4_refers_4 : decode cX4_refers 4 = .ok (.iload_n 1, 1) := by decide +kernel
theorem dX4_refers_5 : decode cX4_refers 5 = .ok (.invokevirtual 127, 3) := by decide +kernel
theorem dX4_refers_8 : decode cX4_refers 8 = .ok (.ifCond .eq 14, 3) := by decide +kernel
theorem dX4_refers_11 : decode cX4_refers 11 = .ok (.aload_n 0, 1) := by decide +kernel
theorem dX4_refers_12 : decode cX4_refers 12 = .ok (.getfield 12, 3) := by decide +kernel
theorem dX4_refers_15 : decode cX4_refers 15 = .ok (.iload_n 2, 1) := by decide +kernel
theorem dX4_refers_16 : decode cX4_refers 16 = .ok (.invokevirtual 83, 3) := by decide +kernel
theorem dX4_refers_19 : decode cX4_refers 19 = .ok (.ifCond .ne 5, 3) := by decide +kernel
theorem dX4_refers_22 : decode cX4_refers 22 = .ok (.iconst (-1), 1) := by decide +kernel
theorem dX4_refers_23 : decode cX4_refers 23 = .ok (.ireturn, 1) := by decide +kernel
theorem dX4_refers_24 : decode cX4_refers 24 = .ok (.aload_n 0, 1) := by decide +kernel
theorem dX4_refers_25 : decode cX4_refers 25 = .ok (.getfield 12, 3) := by decide +kernel
theorem dX4_refers_28 : decode cX4_refers 28 = .ok (.iload_n 1, 1) := by decide +kernel
theorem dX4_refers_29 : decode cX4_refers 29 = .ok (.iload_n 2, 1) := by decide +kernel
theorem dX4_refers_30 : decode cX4_refers 30 = .ok (.invokevirtual 130, 3) := by decide +kernel
theorem dX4_refers_33 : decode cX4_refers 33 = .ok (.bipush (-9), 2) := by decide +kernel
theorem dX4_refers_35 : decode cX4_refers 35 = .ok (.if_icmp .eq 7, 3) := by decide +kernel
theorem dX4_refers_38 : decode cX4_refers 38 = .ok (.iconst 1, 1) := by decide +kernel
theorem dX4_refers_39 : decode cX4_refers 39 = .ok (.goto 4, 3) := by decide +kernel
theorem dX4_refers_42 : decode cX4_refers 42 = .ok (.iconst 0, 1) := by decide +kernel
theorem dX4_refers_43 : decode cX4_refers 43 = .ok (.invokestatic 108, 3) := by decide +kernel
theorem dX4_refers_46 : decode cX4_refers 46 = .ok (.ireturn, 1) := by decide +kernel
set_option maxRecDepth 20000 in
theorem ggX4_place_X3_mayOwn : GoodIn wsX4_place wsX3_mayOwn := goodIn_r _ [6, 7, 8, 9, 10, 5, 11, 27, 28, 29, 30, 31, 32, 33] (by decide +kernel) (by decide +kernel)
set_option maxRecDepth 20000 in
theorem gX4_place_X3_mayOwn : GoodIn wsX4_place (wsV RX4 127 RX3 yX3_mayOwn wsX3_mayOwn) := goodIn_app (goodIn_of _ (by decide +kernel)) ggX4_place_X3_mayOwn
set_option maxRecDepth 20000 in
theorem ggX4_place_X3_isThing : GoodIn wsX4_place wsX3_isThing := goodIn_r _ [11, 7, 27, 28, 29, 30, 31, 32, 33] (by decide +kernel) (by decide +kernel)
set_option maxRecDepth 20000 in
theorem gX4_place_X3_isThing : GoodIn wsX4_place (wsV RX4 83 RX3 yX3_isThing wsX3_isThing) := goodIn_app (goodIn_of _ (by decide +kernel)) ggX4_place_X3_isThing
set_option maxRecDepth 20000 in
theorem ggX4_place_X3_find : GoodIn wsX4_place wsX3_find := goodIn_r _ [16, 17, 18, 19, 27, 28, 29, 30, 31, 32, 33] (by decide +kernel) (by decide +kernel)
set_option maxRecDepth 20000 in
theorem gX4_place_X3_find : GoodIn wsX4_place (wsV RX4 130 RX3 yX3_find wsX3_find) := goodIn_app (goodIn_of _ (by decide +kernel)) ggX4_place_X3_find
theorem dX4_place_0 : decode cX4_place 0 = .ok (.aload_n 0, 1) := by decide +kernel
theorem dX4_place_1 : decode cX4_place 1 = .ok (.getfield 12, 3) := by decide +kernel
theorem dX4_place_4 : decode cX4_place 4 = .ok (.iload_n 1, 1) := by decide +kernel
theorem dX4_place_5 : decode cX4_place 5 = .ok (.invokevirtual 127, 3) := by decide +kernel
theorem dX4_place_8 : decode cX4_place 8 = .ok (.ifCond .eq 14, 3) := by decide +kernel
theorem dX4_place_11 : decode cX4_place 11 = .ok (.aload_n 0, 1) := by decide +kernel
theorem dX4_place_12 : decode cX4_place 12 = .ok (.getfield 12, 3) := by decide +kernel
theorem dX4_place_15 : decode cX4_place 15 = .ok (.iload_n 2, 1) := by decide +kernel
theorem dX4_place_16 : decode cX4_place 16 = .ok (.invokevirtual 83, 3) := by decide +kernel
theorem dX4_place_19 : decode cX4_place 19 = .ok (.ifCond .ne 5, 3) := by decide +kernel
theorem dX4_place_22 : decode cX4_place 22 = .ok (.iconst (-1), 1) := by decide +kernel
theorem dX4_place_23 : decode cX4_place 23 = .ok (.ireturn, 1) := by decide +kernel
theorem dX4_place_24 : decode cX4_place 24 = .ok (.aload_n 0, 1) := by decide +kernel
theorem dX4_place_25 : decode cX4_place 25 = .ok (.getfield 12, 3) := by decide +kernel
theorem dX4_place_28 : decode cX4_place 28 = .ok (.iload_n 1, 1) := by decide +kernel
theorem dX4_place_29 : decode cX4_place 29 = .ok (.iload_n 2, 1) := by decide +kernel
theorem dX4_place_30 : decode cX4_place 30 = .ok (.invokevirtual 130, 3) := by decide +kernel
theorem dX4_place_33 : decode cX4_place 33 = .ok (.ireturn, 1) := by decide +kernel
set_option maxRecDepth 20000 in
theorem ggX4_refer_X3_makeOrCut : GoodIn wsX4_refer wsX3_makeOrCut := goodIn_r _ [6, 7, 8, 9, 10, 5, 11, 12, 13, 14, 15, 16, 17, 18, 19, 20, 21, 22, 23, 24, 25, 26, 27, 28, 29, 30, 38, 39, 40, 41, 42, 43, 44] (by decide +kernel) (by decide +kernel)
set_option maxRecDepth 20000 in
theorem gX4_refer_X3_makeOrCut : GoodIn wsX4_refer (wsV RX4 134 RX3 yX3_makeOrCut wsX3_makeOrCut) := goodIn_app (goodIn_of _ (by decide +kernel)) ggX4_refer_X3_makeOrCut
theorem dX4_refer_0 : decode cX4_refer 0 = .ok (.aload_n 0, 1) := by decide +kernel
theorem dX4_refer_1 : decode cX4_refer 1 = .ok (.getfield 12, 3) := by decide +kernel
theorem dX4_refer_4 : decode cX4_refer 4 = .ok (.iload_n 1, 1) := by decide +kernel
theorem dX4_refer_5 : decode cX4_refer 5 = .ok (.iload_n 2, 1) := by decide +kernel
theorem dX4_refer_6 : decode cX4_refer 6 = .ok (.invokevirtual 134, 3) := by decide +kernel
theorem dX4_refer_9 : decode cX4_refer 9 = .ok (.ireturn, 1) := by decide +kernel
set_option maxRecDepth 20000 in
theorem ggX4_own_X3_changeOwner : GoodIn wsX4_own wsX3_changeOwner := goodIn_r _ [6, 7, 8, 9, 10, 5, 11, 12, 13, 14, 15, 16, 17, 18, 19, 20, 28, 29, 30, 31, 32, 33, 34] (by decide +kernel) (by decide +kernel)
set_option maxRecDepth 20000 in
theorem gX4_own_X3_changeOwner : GoodIn wsX4_own (wsV RX4 137 RX3 yX3_changeOwner wsX3_changeOwner) := goodIn_app (goodIn_of _ (by decide +kernel)) ggX4_own_X3_changeOwner
theorem dX4_own_0 : decode cX4_own 0 = .ok (.aload_n 0, 1) := by decide +kernel
theorem dX4_own_1 : decode cX4_own 1 = .ok (.getfield 12, 3) := by decide +kernel
theorem dX4_own_4 : decode cX4_own 4 = .ok (.iload_n 1, 1) := by decide +kernel
theorem dX4_own_5 : decode cX4_own 5 = .ok (.iload_n 2, 1) := by decide +kernel
theorem dX4_own_6 : decode cX4_own 6 = .ok (.invokevirtual 137, 3) := by decide +kernel
theorem dX4_own_9 : decode cX4_own 9 = .ok (.ireturn, 1) := by decide +kernel
set_option maxRecDepth 20000 in
theorem ggX4_hand_X3_handOn : GoodIn wsX4_hand wsX3_handOn := goodIn_r _ [6, 7, 8, 9, 10, 11, 5, 12, 13, 14, 15, 16, 17, 18, 19, 20, 21, 22, 23, 31, 32, 33, 34, 35, 36, 37] (by decide +kernel) (by decide +kernel)
set_option maxRecDepth 20000 in
theorem gX4_hand_X3_handOn : GoodIn wsX4_hand (wsV RX4 140 RX3 yX3_handOn wsX3_handOn) := goodIn_app (goodIn_of _ (by decide +kernel)) ggX4_hand_X3_handOn
theorem dX4_hand_0 : decode cX4_hand 0 = .ok (.aload_n 0, 1) := by decide +kernel
theorem dX4_hand_1 : decode cX4_hand 1 = .ok (.getfield 12, 3) := by decide +kernel
theorem dX4_hand_4 : decode cX4_hand 4 = .ok (.iload_n 1, 1) := by decide +kernel
theorem dX4_hand_5 : decode cX4_hand 5 = .ok (.iload_n 2, 1) := by decide +kernel
theorem dX4_hand_6 : decode cX4_hand 6 = .ok (.invokevirtual 140, 3) := by decide +kernel
theorem dX4_hand_9 : decode cX4_hand 9 = .ok (.ireturn, 1) := by decide +kernel
set_option maxRecDepth 20000 in
theorem ggX4_day_X4_isSheet : GoodIn wsX4_day wsX4_isSheet := goodIn_r _ [8, 9, 10, 7, 11] (by decide +kernel) (by decide +kernel)
set_option maxRecDepth 20000 in
theorem gX4_day_X4_isSheet : GoodIn wsX4_day (va_wsS RX4 51 yX4_isSheet wsX4_isSheet) := goodIn_app (goodIn_of _ (by decide +kernel)) ggX4_day_X4_isSheet
set_option maxRecDepth 20000 in
theorem ggX4_day_X4_isLane : GoodIn wsX4_day wsX4_isLane := goodIn_r _ [14, 9, 10, 7, 11] (by decide +kernel) (by decide +kernel)
set_option maxRecDepth 20000 in
theorem gX4_day_X4_isLane : GoodIn wsX4_day (va_wsS RX4 55 yX4_isLane wsX4_isLane) := goodIn_app (goodIn_of _ (by decide +kernel)) ggX4_day_X4_isLane
set_option maxRecDepth 20000 in
theorem ggX4_day_X4_isBetween : GoodIn wsX4_day wsX4_isBetween := goodIn_r _ [11] (by decide +kernel) (by decide +kernel)
set_option maxRecDepth 20000 in
theorem gX4_day_X4_isBetween : GoodIn wsX4_day (va_wsS RX4 143 yX4_isBetween wsX4_isBetween) := goodIn_app (goodIn_of _ (by decide +kernel)) ggX4_day_X4_isBetween
set_option maxRecDepth 20000 in
theorem ggX4_day_X4_isAskedOfDays : GoodIn wsX4_day wsX4_isAskedOfDays := goodIn_r _ [17, 9, 10, 7, 11] (by decide +kernel) (by decide +kernel)
set_option maxRecDepth 20000 in
theorem gX4_day_X4_isAskedOfDays : GoodIn wsX4_day (va_wsS RX4 147 yX4_isAskedOfDays wsX4_isAskedOfDays) := goodIn_app (goodIn_of _ (by decide +kernel)) ggX4_day_X4_isAskedOfDays
set_option maxRecDepth 20000 in
theorem ggX4_day_X1_rowFault : GoodIn wsX4_day wsX1_rowFault := goodIn_r _ [22, 23, 24, 25, 26, 21, 27, 28, 29, 30, 31, 32, 177, 178, 179] (by decide +kernel) (by decide +kernel)
set_option maxRecDepth 20000 in
theorem gX4_day_X1_rowFault : GoodIn wsX4_day (wsV RX4 58 RX1 yX1_rowFault wsX1_rowFault) := goodIn_app (goodIn_of _ (by decide +kernel)) ggX4_day_X1_rowFault
set_option maxRecDepth 20000 in
theorem ggX4_day_X4_failed : GoodIn wsX4_day wsX4_failed := goodIn_r _ [36, 1, 170, 171, 172, 173, 174, 175, 176] (by decide +kernel) (by decide +kernel)
set_option maxRecDepth 20000 in
theorem gX4_day_X4_failed : GoodIn wsX4_day (wsV RX4 62 RX4 yX4_failed wsX4_failed) := goodIn_app (goodIn_of _ (by decide +kernel)) ggX4_day_X4_failed
set_option maxRecDepth 20000 in
theorem ggX4_day_X3_size : GoodIn wsX4_day wsX3_size := goodIn_r _ [41, 42, 180, 181, 182, 183, 184, 185, 186] (by decide +kernel) (by decide +kernel)
set_option maxRecDepth 20000 in
theorem gX4_day_X3_size : GoodIn wsX4_day (wsV RX4 82 RX3 yX3_size wsX3_size) := goodIn_app (goodIn_of _ (by decide +kernel)) ggX4_day_X3_size
set_option maxRecDepth 20000 in
theorem ggX4_day_X4_areSortsKnown : GoodIn wsX4_day wsX4_areSortsKnown := goodIn_r _ [45, 46, 47, 48, 21, 49, 28, 50, 9, 10, 7, 11, 177, 178, 179] (by decide +kernel) (by decide +kernel)
set_option maxRecDepth 20000 in
theorem gX4_day_X4_areSortsKnown : GoodIn wsX4_day (va_wsS RX4 150 yX4_areSortsKnown wsX4_areSortsKnown) := goodIn_app (goodIn_of _ (by decide +kernel)) ggX4_day_X4_areSortsKnown
set_option maxRecDepth 20000 in
theorem ggX4_day_X3_become : GoodIn wsX4_day wsX3_become := goodIn_r _ [54, 42, 55, 56, 57, 58, 59, 60, 61, 62, 63, 180, 181, 182, 183, 184, 185, 186] (by decide +kernel) (by decide +kernel)
set_option maxRecDepth 20000 in
theorem gX4_day_X3_become : GoodIn wsX4_day (wsV RX4 70 RX3 yX3_become wsX3_become) := goodIn_app (goodIn_of _ (by decide +kernel)) ggX4_day_X3_become
set_option maxRecDepth 20000 in
theorem ggX4_day_X4_firstWrong : GoodIn wsX4_day wsX4_firstWrong := goodIn_r _ [67, 46, 47, 48, 21, 49, 28, 50, 68, 69, 70, 7, 71, 4, 72, 73, 74, 40, 75, 55, 76, 77, 78, 79, 42, 80, 81, 82, 83, 84, 85, 86, 87, 62, 63, 88, 89, 90, 91, 92, 93, 94, 95, 96, 97, 98, 99, 61, 100, 101, 102, 103, 104, 105, 106, 107, 108, 109, 110, 111, 177, 178, 179, 170, 171, 172, 173, 174, 175, 176, 180, 181, 182, 183, 184, 185, 186] (by decide +kernel) (by decide +kernel)
set_option maxRecDepth 20000 in
theorem gX4_day_X4_firstWrong : GoodIn wsX4_day (wsV RX4 154 RX4 yX4_firstWrong wsX4_firstWrong) := goodIn_app (goodIn_of _ (by decide +kernel)) ggX4_day_X4_firstWrong
set_option maxRecDepth 20000 in
theorem ggX4_day_X4_afterDay : GoodIn wsX4_day wsX4_afterDay := goodIn_r _ [115, 4, 116, 117, 118, 40, 119, 55, 120, 121, 122, 123, 42, 124, 125, 126, 127, 128, 129, 130, 131, 61, 80, 81, 82, 83, 132, 133, 134, 135, 136, 7, 137, 138, 139, 140, 141, 62, 63, 142, 143, 144, 145, 146, 147, 148, 149, 150, 151, 152, 153, 154, 155, 156, 157, 158, 159, 160, 161, 162, 163, 164, 165, 166, 167, 56, 168, 169, 170, 171, 172, 173, 174, 175, 176, 180, 181, 182, 183, 184, 185, 186] (by decide +kernel) (by decide +kernel)
set_option maxRecDepth 20000 in
theorem gX4_day_X4_afterDay : GoodIn wsX4_day (wsV RX4 157 RX4 yX4_afterDay wsX4_afterDay) := goodIn_app (goodIn_of _ (by decide +kernel)) ggX4_day_X4_afterDay
theorem dX4_day_0 : decode cX4_day 0 = .ok (.aload_n 0, 1) := by decide +kernel
theorem dX4_day_1 : decode cX4_day 1 = .ok (.iconst 0, 1) := by decide +kernel
theorem dX4_day_2 : decode cX4_day 2 = .ok (.putfield 48, 3) := by decide +kernel
theorem dX4_day_5 : decode cX4_day 5 = .ok (.iload_n 1, 1) := by decide +kernel
theorem dX4_day_6 : decode cX4_day 6 = .ok (.invokestatic 51, 3) := by decide +kernel
theorem dX4_day_9 : decode cX4_day 9 = .ok (.ifCond .ne 5, 3) := by decide +kernel
theorem dX4_day_12 : decode cX4_day 12 = .ok (.iconst (-1), 1) := by decide +kernel
theorem dX4_day_13 : decode cX4_day 13 = .ok (.ireturn, 1) := by decide +kernel
theorem dX4_day_14 : decode cX4_day 14 = .ok (.iload_n 2, 1) := by decide +kernel
theorem dX4_day_15 : decode cX4_day 15 = .ok (.invokestatic 55, 3) := by decide +kernel
theorem dX4_day_18 : decode cX4_day 18 = .ok (.ifCond .eq 22, 3) := by decide +kernel
theorem dX4_day_21 : decode cX4_day 21 = .ok (.iload 4, 2) := by decide +kernel
theorem dX4_day_23 : decode cX4_day 23 = .ok (.iconst 0, 1) := by decide +kernel
theorem dX4_day_24 : decode cX4_day 24 = .ok (.bipush 20, 2) := by decide +kernel
theorem dX4_day_26 : decode cX4_day 26 = .ok (.invokestatic 143, 3) := by decide +kernel
theorem dX4_day_29 : decode cX4_day 29 = .ok (.ifCond .eq 11, 3) := by decide +kernel
theorem dX4_day_32 : decode cX4_day 32 = .ok (.iload 5, 2) := by decide +kernel
theorem dX4_day_34 : decode cX4_day 34 = .ok (.invokestatic 147, 3) := by decide +kernel
theorem dX4_day_37 : decode cX4_day 37 = .ok (.ifCond .ne 6, 3) := by decide +kernel
theorem dX4_day_40 : decode cX4_day 40 = .ok (.bipush (-2), 2) := by decide +kernel
theorem dX4_day_42 : decode cX4_day 42 = .ok (.ireturn, 1) := by decide +kernel
theorem dX4_day_43 : decode cX4_day 43 = .ok (.aload_n 0, 1) := by decide +kernel
theorem dX4_day_44 : decode cX4_day 44 = .ok (.getfield 30, 3) := by decide +kernel
theorem dX4_day_47 : decode cX4_day 47 = .ok (.iload_n 1, 1) := by decide +kernel
theorem dX4_day_48 : decode cX4_day 48 = .ok (.aaload, 1) := by decide +kernel
theorem dX4_day_49 : decode cX4_day 49 = .ok (.astore 6, 2) := by decide +kernel
theorem dX4_day_51 : decode cX4_day 51 = .ok (.aload 6, 2) := by decide +kernel
theorem dX4_day_53 : decode cX4_day 53 = .ok (.iload_n 2, 1) := by decide +kernel
theorem dX4_day_54 : decode cX4_day 54 = .ok (.iload_n 3, 1) := by decide +kernel
theorem dX4_day_55 : decode cX4_day 55 = .ok (.iconst 3, 1) := by decide +kernel
theorem dX4_day_56 : decode cX4_day 56 = .ok (.iload 4, 2) := by decide +kernel
theorem dX4_day_58 : decode cX4_day 58 = .ok (.imul, 1) := by decide +kernel
theorem dX4_day_59 : decode cX4_day 59 = .ok (.invokevirtual 58, 3) := by decide +kernel
theorem dX4_day_62 : decode cX4_day 62 = .ok (.istore 7, 2) := by decide +kernel
theorem dX4_day_64 : decode cX4_day 64 = .ok (.iload 7, 2) := by decide +kernel
theorem dX4_day_66 : decode cX4_day 66 = .ok (.ifCond .eq 10, 3) := by decide +kernel
theorem dX4_day_69 : decode cX4_day 69 = .ok (.aload_n 0, 1) := by decide +kernel
theorem dX4_day_70 : decode cX4_day 70 = .ok (.iload 7, 2) := by decide +kernel
theorem dX4_day_72 : decode cX4_day 72 = .ok (.invokevirtual 62, 3) := by decide +kernel
theorem dX4_day_75 : decode cX4_day 75 = .ok (.ireturn, 1) := by decide +kernel
theorem dX4_day_76 : decode cX4_day 76 = .ok (.aload_n 0, 1) := by decide +kernel
theorem dX4_day_77 : decode cX4_day 77 = .ok (.getfield 12, 3) := by decide +kernel
theorem dX4_day_80 : decode cX4_day 80 = .ok (.invokevirtual 82, 3) := by decide +kernel
theorem dX4_day_83 : decode cX4_day 83 = .ok (.ifCond .ne 6, 3) := by decide +kernel
theorem dX4_day_86 : decode cX4_day 86 = .ok (.bipush (-3), 2) := by decide +kernel
theorem dX4_day_88 : decode cX4_day 88 = .ok (.ireturn, 1) := by decide +kernel
theorem dX4_day_89 : decode cX4_day 89 = .ok (.aload 6, 2) := by decide +kernel
theorem dX4_day_91 : decode cX4_day 91 = .ok (.iload_n 3, 1) := by decide +kernel
theorem dX4_day_92 : decode cX4_day 92 = .ok (.iload 4, 2) := by decide +kernel
theorem dX4_day_94 : decode cX4_day 94 = .ok (.invokestatic 150, 3) := by decide +kernel
theorem dX4_day_97 : decode cX4_day 97 = .ok (.ifCond .ne 6, 3) := by decide +kernel
theorem dX4_day_100 : decode cX4_day 100 = .ok (.bipush (-2), 2) := by decide +kernel
theorem dX4_day_102 : decode cX4_day 102 = .ok (.ireturn, 1) := by decide +kernel
theorem dX4_day_103 : decode cX4_day 103 = .ok (.aload_n 0, 1) := by decide +kernel
theorem dX4_day_104 : decode cX4_day 104 = .ok (.getfield 18, 3) := by decide +kernel
theorem dX4_day_107 : decode cX4_day 107 = .ok (.aload_n 0, 1) := by decide +kernel
theorem dX4_day_108 : decode cX4_day 108 = .ok (.getfield 12, 3) := by decide +kernel
theorem dX4_day_111 : decode cX4_day 111 = .ok (.invokevirtual 70, 3) := by decide +kernel
theorem dX4_day_114 : decode cX4_day 114 = .ok (.aload_n 0, 1) := by decide +kernel
theorem dX4_day_115 : decode cX4_day 115 = .ok (.aload 6, 2) := by decide +kernel
theorem dX4_day_117 : decode cX4_day 117 = .ok (.iload_n 3, 1) := by decide +kernel
theorem dX4_day_118 : decode cX4_day 118 = .ok (.iload 4, 2) := by decide +kernel
theorem dX4_day_120 : decode cX4_day 120 = .ok (.invokevirtual 154, 3) := by decide +kernel
theorem dX4_day_123 : decode cX4_day 123 = .ok (.istore 8, 2) := by decide +kernel
theorem dX4_day_125 : decode cX4_day 125 = .ok (.iload 5, 2) := by decide +kernel
theorem dX4_day_127 : decode cX4_day 127 = .ok (.iconst 1, 1) := by decide +kernel
theorem dX4_day_128 : decode cX4_day 128 = .ok (.if_icmp .ne 6, 3) := by decide +kernel
theorem dX4_day_131 : decode cX4_day 131 = .ok (.iload 8, 2) := by decide +kernel
theorem dX4_day_133 : decode cX4_day 133 = .ok (.ireturn, 1) := by decide +kernel
theorem dX4_day_134 : decode cX4_day 134 = .ok (.iload 8, 2) := by decide +kernel
theorem dX4_day_136 : decode cX4_day 136 = .ok (.bipush (-9), 2) := by decide +kernel
theorem dX4_day_138 : decode cX4_day 138 = .ok (.if_icmp .ne 12, 3) := by decide +kernel
theorem dX4_day_141 : decode cX4_day 141 = .ok (.aload_n 0, 1) := by decide +kernel
theorem dX4_day_142 : decode cX4_day 142 = .ok (.iload 5, 2) := by decide +kernel
theorem dX4_day_144 : decode cX4_day 144 = .ok (.invokevirtual 157, 3) := by decide +kernel
theorem dX4_day_147 : decode cX4_day 147 = .ok (.goto 8, 3) := by decide +kernel
theorem dX4_day_150 : decode cX4_day 150 = .ok (.bipush (-100), 2) := by decide +kernel
theorem dX4_day_152 : decode cX4_day 152 = .ok (.iload 8, 2) := by decide +kernel
theorem dX4_day_154 : decode cX4_day 154 = .ok (.isub, 1) := by decide +kernel
theorem dX4_day_155 : decode cX4_day 155 = .ok (.ireturn, 1) := by decide +kernel
set_option maxRecDepth 20000 in
theorem ggX4_isAskedOfDays_X4_isBetween : GoodIn wsX4_isAskedOfDays wsX4_isBetween := goodIn_r _ [4] (by decide +kernel) (by decide +kernel)
set_option maxRecDepth 20000 in
theorem gX4_isAskedOfDays_X4_isBetween : GoodIn wsX4_isAskedOfDays (va_wsS RX4 143 yX4_isBetween wsX4_isBetween) := goodIn_app (goodIn_of _ (by decide +kernel)) ggX4_isAskedOfDays_X4_isBetween
theorem dX4_isAskedOfDays_0 : decode cX4_isAskedOfDays 0 = .ok (.iload_n 0, 1) := by decide +kernel
theorem dX4_isAskedOfDays_1 : decode cX4_isAskedOfDays 1 = .ok (.iconst 0, 1) := by decide +kernel
theorem dX4_isAskedOfDays_2 : decode cX4_isAskedOfDays 2 = .ok (.iconst 4, 1) := by decide +kernel
theorem dX4_isAskedOfDays_3 : decode cX4_isAskedOfDays 3 = .ok (.invokestatic 143, 3) := by decide +kernel
theorem dX4_isAskedOfDays_6 : decode cX4_isAskedOfDays 6 = .ok (.ifCond .ne 14, 3) := by decide +kernel
theorem dX4_isAskedOfDays_9 : decode cX4_isAskedOfDays 9 = .ok (.iload_n 0, 1) := by decide +kernel
theorem dX4_isAskedOfDays_10 : decode cX4_isAskedOfDays 10 = .ok (.bipush 10, 2) := by decide +kernel
theorem dX4_isAskedOfDays_12 : decode cX4_isAskedOfDays 12 = .ok (.bipush 15, 2) := by decide +kernel
theorem dX4_isAskedOfDays_14 : decode cX4_isAskedOfDays 14 = .ok (.invokestatic 143, 3) := by decide +kernel
theorem dX4_isAskedOfDays_17 : decode cX4_isAskedOfDays 17 = .ok (.ifCond .eq 7, 3) := by decide +kernel
theorem dX4_isAskedOfDays_20 : decode cX4_isAskedOfDays 20 = .ok (.iconst 1, 1) := by decide +kernel
theorem dX4_isAskedOfDays_21 : decode cX4_isAskedOfDays 21 = .ok (.goto 4, 3) := by decide +kernel
theorem dX4_isAskedOfDays_24 : decode cX4_isAskedOfDays 24 = .ok (.iconst 0, 1) := by decide +kernel
theorem dX4_isAskedOfDays_25 : decode cX4_isAskedOfDays 25 = .ok (.ireturn, 1) := by decide +kernel
set_option maxRecDepth 20000 in
theorem ggX4_areSortsKnown_X1_valueAt : GoodIn wsX4_areSortsKnown wsX1_valueAt := goodIn_r _ [5, 6, 7, 12, 13, 14] (by decide +kernel) (by decide +kernel)
set_option maxRecDepth 20000 in
theorem gX4_areSortsKnown_X1_valueAt : GoodIn wsX4_areSortsKnown (wsV RX4 160 RX1 yX1_valueAt wsX1_valueAt) := goodIn_app (goodIn_of _ (by decide +kernel)) ggX4_areSortsKnown_X1_valueAt
set_option maxRecDepth 20000 in
theorem ggX4_areSortsKnown_X4_isBetween : GoodIn wsX4_areSortsKnown wsX4_isBetween := goodIn_r _ [11] (by decide +kernel) (by decide +kernel)
set_option maxRecDepth 20000 in
theorem gX4_areSortsKnown_X4_isBetween : GoodIn wsX4_areSortsKnown (va_wsS RX4 143 yX4_isBetween wsX4_isBetween) := goodIn_app (goodIn_of _ (by decide +kernel)) ggX4_areSortsKnown_X4_isBetween
theorem dX4_areSortsKnown_0 : decode cX4_areSortsKnown 0 = .ok (.iconst 0, 1) := by decide +kernel
theorem dX4_areSortsKnown_1 : decode cX4_areSortsKnown 1 = .ok (.istore_n 3, 1) := by decide +kernel
theorem dX4_areSortsKnown_2 : decode cX4_areSortsKnown 2 = .ok (.iload_n 3, 1) := by decide +kernel
theorem dX4_areSortsKnown_3 : decode cX4_areSortsKnown 3 = .ok (.iload_n 2, 1) := by decide +kernel
theorem dX4_areSortsKnown_4 : decode cX4_areSortsKnown 4 = .ok (.if_icmp .ge 28, 3) := by decide +kernel
theorem dX4_areSortsKnown_7 : decode cX4_areSortsKnown 7 = .ok (.aload_n 0, 1) := by decide +kernel
theorem dX4_areSortsKnown_8 : decode cX4_areSortsKnown 8 = .ok (.iload_n 1, 1) := by decide +kernel
theorem dX4_areSortsKnown_9 : decode cX4_areSortsKnown 9 = .ok (.iconst 3, 1) := by decide +kernel
theorem dX4_areSortsKnown_10 : decode cX4_areSortsKnown 10 = .ok (.iload_n 3, 1) := by decide +kernel
theorem dX4_areSortsKnown_11 : decode cX4_areSortsKnown 11 = .ok (.imul, 1) := by decide +kernel
theorem dX4_areSortsKnown_12 : decode cX4_areSortsKnown 12 = .ok (.iadd, 1) := by decide +kernel
theorem dX4_areSortsKnown_13 : decode cX4_areSortsKnown 13 = .ok (.invokevirtual 160, 3) := by decide +kernel
theorem dX4_areSortsKnown_16 : decode cX4_areSortsKnown 16 = .ok (.iconst 0, 1) := by decide +kernel
theorem dX4_areSortsKnown_17 : decode cX4_areSortsKnown 17 = .ok (.iconst 2, 1) := by decide +kernel
theorem dX4_areSortsKnown_18 : decode cX4_areSortsKnown 18 = .ok (.invokestatic 143, 3) := by decide +kernel
theorem dX4_areSortsKnown_21 : decode cX4_areSortsKnown 21 = .ok (.ifCond .ne 5, 3) := by decide +kernel
theorem dX4_areSortsKnown_24 : decode cX4_areSortsKnown 24 = .ok (.iconst 0, 1) := by decide +kernel
theorem dX4_areSortsKnown_25 : decode cX4_areSortsKnown 25 = .ok (.ireturn, 1) := by decide +kernel
theorem dX4_areSortsKnown_26 : decode cX4_areSortsKnown 26 = .ok (.iinc 3 1, 3) := by decide +kernel
theorem dX4_areSortsKnown_29 : decode cX4_areSortsKnown 29 = .ok (.goto (-27), 3) := by decide +kernel
theorem dX4_areSortsKnown_32 : decode cX4_areSortsKnown 32 = .ok (.iconst 1, 1) := by decide +kernel
theorem dX4_areSortsKnown_33 : decode cX4_areSortsKnown 33 = .ok (.ireturn, 1) := by decide +kernel
set_option maxRecDepth 20000 in
theorem ggX4_firstWrong_X1_valueAt : GoodIn wsX4_firstWrong wsX1_valueAt := goodIn_r _ [5, 6, 7, 60, 61, 62] (by decide +kernel) (by decide +kernel)
set_option maxRecDepth 20000 in
theorem gX4_firstWrong_X1_valueAt : GoodIn wsX4_firstWrong (wsV RX4 160 RX1 yX1_valueAt wsX1_valueAt) := goodIn_app (goodIn_of _ (by decide +kernel)) ggX4_firstWrong_X1_valueAt
set_option maxRecDepth 20000 in
theorem ggX4_firstWrong_X4_isActDone : GoodIn wsX4_firstWrong wsX4_isActDone := goodIn_r _ [12, 13, 14, 15, 16, 17, 18, 19, 20, 21, 22, 23, 24, 25, 26, 27, 28, 29, 30, 31, 32, 33, 34, 35, 36, 37, 38, 39, 40, 41, 42, 43, 44, 45, 46, 47, 48, 49, 50, 51, 52, 53, 54, 55, 56, 57, 58, 59, 63, 64, 65, 66, 67, 68, 69, 70, 71, 72, 73, 74, 75, 76] (by decide +kernel) (by decide +kernel)
set_option maxRecDepth 20000 in
theorem gX4_firstWrong_X4_isActDone : GoodIn wsX4_firstWrong (wsV RX4 163 RX4 yX4_isActDone wsX4_isActDone) := goodIn_app (goodIn_of _ (by decide +kernel)) ggX4_firstWrong_X4_isActDone
theorem dX4_firstWrong_0 : decode cX4_firstWrong 0 = .ok (.iconst 0, 1) := by decide +kernel
theorem dX4_firstWrong_1 : decode cX4_firstWrong 1 = .ok (.istore 4, 2) := by decide +kernel
theorem dX4_firstWrong_3 : decode cX4_firstWrong 3 = .ok (.iload 4, 2) := by decide +kernel
theorem dX4_firstWrong_5 : decode cX4_firstWrong 5 = .ok (.iload_n 3, 1) := by decide +kernel
theorem dX4_firstWrong_6 : decode cX4_firstWrong 6 = .ok (.if_icmp .ge 49, 3) := by decide +kernel
theorem dX4_firstWrong_9 : decode cX4_firstWrong 9 = .ok (.iload_n 2, 1) := by decide +kernel
theorem dX4_firstWrong_10 : decode cX4_firstWrong 10 = .ok (.iconst 3, 1) := by decide +kernel
theorem dX4_firstWrong_11 : decode cX4_firstWrong 11 = .ok (.iload 4, 2) := by decide +kernel
theorem dX4_firstWrong_13 : decode cX4_firstWrong 13 = .ok (.imul, 1) := by decide +kernel
theorem dX4_firstWrong_14 : decode cX4_firstWrong 14 = .ok (.iadd, 1) := by decide +kernel
theorem dX4_firstWrong_15 : decode cX4_firstWrong 15 = .ok (.istore 5, 2) := by decide +kernel
theorem dX4_firstWrong_17 : decode cX4_firstWrong 17 = .ok (.aload_n 0, 1) := by decide +kernel
theorem dX4_firstWrong_18 : decode cX4_firstWrong 18 = .ok (.aload_n 1, 1) := by decide +kernel
theorem dX4_firstWrong_19 : decode cX4_firstWrong 19 = .ok (.iload 5, 2) := by decide +kernel
theorem dX4_firstWrong_21 : decode cX4_firstWrong 21 = .ok (.invokevirtual 160, 3) := by decide +kernel
theorem dX4_firstWrong_24 : decode cX4_firstWrong 24 = .ok (.aload_n 1, 1) := by decide +kernel
theorem dX4_firstWrong_25 : decode cX4_firstWrong 25 = .ok (.iload 5, 2) := by decide +kernel
theorem dX4_firstWrong_27 : decode cX4_firstWrong 27 = .ok (.iconst 1, 1) := by decide +kernel
theorem dX4_firstWrong_28 : decode cX4_firstWrong 28 = .ok (.iadd, 1) := by decide +kernel
theorem dX4_firstWrong_29 : decode cX4_firstWrong 29 = .ok (.invokevirtual 160, 3) := by decide +kernel
theorem dX4_firstWrong_32 : decode cX4_firstWrong 32 = .ok (.aload_n 1, 1) := by decide +kernel
theorem dX4_firstWrong_33 : decode cX4_firstWrong 33 = .ok (.iload 5, 2) := by decide +kernel
theorem dX4_firstWrong_35 : decode cX4_firstWrong 35 = .ok (.iconst 2, 1) := by decide +kernel
theorem dX4_firstWrong_36 : decode cX4_firstWrong 36 = .ok (.iadd, 1) := by decide +kernel
theorem dX4_firstWrong_37 : decode cX4_firstWrong 37 = .ok (.invokevirtual 160, 3) := by decide +kernel
theorem dX4_firstWrong_40 : decode cX4_firstWrong 40 = .ok (.invokevirtual 163, 3) := by decide +kernel
theorem dX4_firstWrong_43 : decode cX4_firstWrong 43 = .ok (.ifCond .ne 6, 3) := by decide +kernel
theorem dX4_firstWrong_46 : decode cX4_firstWrong 46 = .ok (.iload 4, 2) := by decide +kernel
theorem dX4_firstWrong_48 : decode cX4_firstWrong 48 = .ok (.ireturn, 1) := by decide +kernel
theorem dX4_firstWrong_49 : decode cX4_firstWrong 49 = .ok (.iinc 4 1, 3) := by decide +kernel
theorem dX4_firstWrong_52 : decode cX4_firstWrong 52 = .ok (.goto (-49), 3) := by decide +kernel
theorem dX4_firstWrong_55 : decode cX4_firstWrong 55 = .ok (.bipush (-9), 2) := by decide +kernel
theorem dX4_firstWrong_57 : decode cX4_firstWrong 57 = .ok (.ireturn, 1) := by decide +kernel
set_option maxRecDepth 20000 in
theorem ggX4_isActDone_X3_makeOrCut : GoodIn wsX4_isActDone wsX3_makeOrCut := goodIn_r _ [6, 7, 8, 9, 10, 5, 11, 12, 13, 14, 15, 16, 17, 18, 19, 20, 21, 22, 23, 24, 25, 26, 27, 28, 29, 30, 55, 56, 57, 58, 59, 60, 61] (by decide +kernel) (by decide +kernel)
set_option maxRecDepth 20000 in
theorem gX4_isActDone_X3_makeOrCut : GoodIn wsX4_isActDone (wsV RX4 134 RX3 yX3_makeOrCut wsX3_makeOrCut) := goodIn_app (goodIn_of _ (by decide +kernel)) ggX4_isActDone_X3_makeOrCut
set_option maxRecDepth 20000 in
theorem ggX4_isActDone_X3_changeOwner : GoodIn wsX4_isActDone wsX3_changeOwner := goodIn_r _ [34, 35, 13, 14, 15, 5, 16, 12, 8, 9, 10, 11, 36, 37, 38, 39, 55, 56, 57, 58, 59, 60, 61] (by decide +kernel) (by decide +kernel)
set_option maxRecDepth 20000 in
theorem gX4_isActDone_X3_changeOwner : GoodIn wsX4_isActDone (wsV RX4 137 RX3 yX3_changeOwner wsX3_changeOwner) := goodIn_app (goodIn_of _ (by decide +kernel)) ggX4_isActDone_X3_changeOwner
set_option maxRecDepth 20000 in
theorem ggX4_isActDone_X3_handOn : GoodIn wsX4_isActDone wsX3_handOn := goodIn_r _ [43, 21, 35, 13, 14, 15, 5, 16, 12, 44, 45, 46, 47, 7, 22, 36, 37, 38, 39, 55, 56, 57, 58, 59, 60, 61] (by decide +kernel) (by decide +kernel)
set_option maxRecDepth 20000 in
theorem gX4_isActDone_X3_handOn : GoodIn wsX4_isActDone (wsV RX4 140 RX3 yX3_handOn wsX3_handOn) := goodIn_app (goodIn_of _ (by decide +kernel)) ggX4_isActDone_X3_handOn
theorem dX4_isActDone_0 : decode cX4_isActDone 0 = .ok (.iload_n 1, 1) := by decide +kernel
theorem dX4_isActDone_1 : decode cX4_isActDone 1 = .ok (.tableswitch 81 0 2 #[27, 45, 63], 27) := by decide +kernel
theorem dX4_isActDone_28 : decode cX4_isActDone 28 = .ok (.aload_n 0, 1) := by decide +kernel
theorem dX4_isActDone_29 : decode cX4_isActDone 29 = .ok (.getfield 18, 3) := by decide +kernel
theorem dX4_isActDone_32 : decode cX4_isActDone 32 = .ok (.iload_n 2, 1) := by decide +kernel
theorem dX4_isActDone_33 : decode cX4_isActDone 33 = .ok (.iload_n 3, 1) := by decide +kernel
theorem dX4_isActDone_34 : decode cX4_isActDone 34 = .ok (.invokevirtual 134, 3) := by decide +kernel
theorem dX4_isActDone_37 : decode cX4_isActDone 37 = .ok (.ifCond .lt 7, 3) := by decide +kernel
theorem dX4_isActDone_40 : decode cX4_isActDone 40 = .ok (.iconst 1, 1) := by decide +kernel
theorem dX4_isActDone_41 : decode cX4_isActDone 41 = .ok (.goto 4, 3) := by decide +kernel
theorem dX4_isActDone_44 : decode cX4_isActDone 44 = .ok (.iconst 0, 1) := by decide +kernel
theorem dX4_isActDone_45 : decode cX4_isActDone 45 = .ok (.ireturn, 1) := by decide +kernel
theorem dX4_isActDone_46 : decode cX4_isActDone 46 = .ok (.aload_n 0, 1) := by decide +kernel
theorem dX4_isActDone_47 : decode cX4_isActDone 47 = .ok (.getfield 18, 3) := by decide +kernel
theorem dX4_isActDone_50 : decode cX4_isActDone 50 = .ok (.iload_n 2, 1) := by decide +kernel
theorem dX4_isActDone_51 : decode cX4_isActDone 51 = .ok (.iload_n 3, 1) := by decide +kernel
theorem dX4_isActDone_52 : decode cX4_isActDone 52 = .ok (.invokevirtual 137, 3) := by decide +kernel
theorem dX4_isActDone_55 : decode cX4_isActDone 55 = .ok (.ifCond .lt 7, 3) := by decide +kernel
theorem dX4_isActDone_58 : decode cX4_isActDone 58 = .ok (.iconst 1, 1) := by decide +kernel
theorem dX4_isActDone_59 : decode cX4_isActDone 59 = .ok (.goto 4, 3) := by decide +kernel
theorem dX4_isActDone_62 : decode cX4_isActDone 62 = .ok (.iconst 0, 1) := by decide +kernel
theorem dX4_isActDone_63 : decode cX4_isActDone 63 = .ok (.ireturn, 1) := by decide +kernel
theorem dX4_isActDone_64 : decode cX4_isActDone 64 = .ok (.aload_n 0, 1) := by decide +kernel
theorem dX4_isActDone_65 : decode cX4_isActDone 65 = .ok (.getfield 18, 3) := by decide +kernel
theorem dX4_isActDone_68 : decode cX4_isActDone 68 = .ok (.iload_n 2, 1) := by decide +kernel
theorem dX4_isActDone_69 : decode cX4_isActDone 69 = .ok (.iload_n 3, 1) := by decide +kernel
theorem dX4_isActDone_70 : decode cX4_isActDone 70 = .ok (.invokevirtual 140, 3) := by decide +kernel
theorem dX4_isActDone_73 : decode cX4_isActDone 73 = .ok (.ifCond .lt 7, 3) := by decide +kernel
theorem dX4_isActDone_76 : decode cX4_isActDone 76 = .ok (.iconst 1, 1) := by decide +kernel
theorem dX4_isActDone_77 : decode cX4_isActDone 77 = .ok (.goto 4, 3) := by decide +kernel
theorem dX4_isActDone_80 : decode cX4_isActDone 80 = .ok (.iconst 0, 1) := by decide +kernel
theorem dX4_isActDone_81 : decode cX4_isActDone 81 = .ok (.ireturn, 1) := by decide +kernel
theorem dX4_isActDone_82 : decode cX4_isActDone 82 = .ok (.iconst 0, 1) := by decide +kernel
theorem dX4_isActDone_83 : decode cX4_isActDone 83 = .ok (.ireturn, 1) := by decide +kernel
set_option maxRecDepth 20000 in
theorem ggX4_afterDay_X3_howManyReferences : GoodIn wsX4_afterDay wsX3_howManyReferences := goodIn_r _ [6, 7, 75, 76, 77, 78, 79, 80, 81] (by decide +kernel) (by decide +kernel)
set_option maxRecDepth 20000 in
theorem gX4_afterDay_X3_howManyReferences : GoodIn wsX4_afterDay (wsV RX4 166 RX3 yX3_howManyReferences wsX3_howManyReferences) := goodIn_app (goodIn_of _ (by decide +kernel)) ggX4_afterDay_X3_howManyReferences
set_option maxRecDepth 20000 in
theorem ggX4_afterDay_X3_notLawful : GoodIn wsX4_afterDay wsX3_notLawful := goodIn_r _ [11, 12, 13, 14, 15, 5, 16, 17, 18, 19, 20, 21, 22, 23, 24, 25, 26, 27, 28, 29, 30, 31, 32, 33, 34, 35, 36, 7, 37, 38, 39, 40, 75, 76, 77, 78, 79, 80, 81] (by decide +kernel) (by decide +kernel)
set_option maxRecDepth 20000 in
theorem gX4_afterDay_X3_notLawful : GoodIn wsX4_afterDay (wsV RX4 169 RX3 yX3_notLawful wsX3_notLawful) := goodIn_app (goodIn_of _ (by decide +kernel)) ggX4_afterDay_X3_notLawful
set_option maxRecDepth 20000 in
theorem ggX4_afterDay_X3_reached : GoodIn wsX4_afterDay wsX3_reached := goodIn_r _ [44, 26, 27, 28, 5, 29, 30, 31, 32, 33, 34, 35, 36, 7, 37, 38, 39, 40, 75, 76, 77, 78, 79, 80, 81] (by decide +kernel) (by decide +kernel)
set_option maxRecDepth 20000 in
theorem gX4_afterDay_X3_reached : GoodIn wsX4_afterDay (wsV RX4 101 RX3 yX3_reached wsX3_reached) := goodIn_app (goodIn_of _ (by decide +kernel)) ggX4_afterDay_X3_reached
set_option maxRecDepth 20000 in
theorem ggX4_afterDay_X3_greatestLock : GoodIn wsX4_afterDay wsX3_greatestLock := goodIn_r _ [48, 12, 49, 50, 51, 52, 53, 54, 55, 5, 56, 57, 58, 59, 60, 21, 22, 23, 24, 25, 61, 62, 63, 64, 65, 75, 76, 77, 78, 79, 80, 81] (by decide +kernel) (by decide +kernel)
set_option maxRecDepth 20000 in
theorem gX4_afterDay_X3_greatestLock : GoodIn wsX4_afterDay (wsV RX4 172 RX3 yX3_greatestLock wsX3_greatestLock) := goodIn_app (goodIn_of _ (by decide +kernel)) ggX4_afterDay_X3_greatestLock
set_option maxRecDepth 20000 in
theorem ggX4_afterDay_X3_isThing : GoodIn wsX4_afterDay wsX3_isThing := goodIn_r _ [25, 12, 75, 76, 77, 78, 79, 80, 81] (by decide +kernel) (by decide +kernel)
set_option maxRecDepth 20000 in
theorem gX4_afterDay_X3_isThing : GoodIn wsX4_afterDay (wsV RX4 83 RX3 yX3_isThing wsX3_isThing) := goodIn_app (goodIn_of _ (by decide +kernel)) ggX4_afterDay_X3_isThing
set_option maxRecDepth 20000 in
theorem ggX4_afterDay_X3_ownerOf : GoodIn wsX4_afterDay wsX3_ownerOf := goodIn_r _ [20, 21, 22, 23, 24, 5, 25, 12, 75, 76, 77, 78, 79, 80, 81] (by decide +kernel) (by decide +kernel)
set_option maxRecDepth 20000 in
theorem gX4_afterDay_X3_ownerOf : GoodIn wsX4_afterDay (wsV RX4 89 RX3 yX3_ownerOf wsX3_ownerOf) := goodIn_app (goodIn_of _ (by decide +kernel)) ggX4_afterDay_X3_ownerOf
theorem dX4_afterDay_0 : decode cX4_afterDay 0 = .ok (.iload_n 1, 1) := by decide +kernel
theorem dX4_afterDay_1 : decode cX4_afterDay 1 = .ok (.tableswitch 67 0 4 #[35, 67, 43, 51, 59], 35) := by decide +kernel
theorem dX4_afterDay_36 : decode cX4_afterDay 36 = .ok (.aload_n 0, 1) := by decide +kernel
theorem dX4_afterDay_37 : decode cX4_afterDay 37 = .ok (.getfield 18, 3) := by decide +kernel
theorem dX4_afterDay_40 : decode cX4_afterDay 40 = .ok (.invokevirtual 166, 3) := by decide +kernel
theorem dX4_afterDay_43 : decode cX4_afterDay 43 = .ok (.ireturn, 1) := by decide +kernel
theorem dX4_afterDay_44 : decode cX4_afterDay 44 = .ok (.aload_n 0, 1) := by decide +kernel
theorem dX4_afterDay_45 : decode cX4_afterDay 45 = .ok (.getfield 18, 3) := by decide +kernel
theorem dX4_afterDay_48 : decode cX4_afterDay 48 = .ok (.invokevirtual 169, 3) := by decide +kernel
theorem dX4_afterDay_51 : decode cX4_afterDay 51 = .ok (.ireturn, 1) := by decide +kernel
theorem dX4_afterDay_52 : decode cX4_afterDay 52 = .ok (.aload_n 0, 1) := by decide +kernel
theorem dX4_afterDay_53 : decode cX4_afterDay 53 = .ok (.getfield 18, 3) := by decide +kernel
theorem dX4_afterDay_56 : decode cX4_afterDay 56 = .ok (.invokevirtual 101, 3) := by decide +kernel
theorem dX4_afterDay_59 : decode cX4_afterDay 59 = .ok (.ireturn, 1) := by decide +kernel
theorem dX4_afterDay_60 : decode cX4_afterDay 60 = .ok (.aload_n 0, 1) := by decide +kernel
theorem dX4_afterDay_61 : decode cX4_afterDay 61 = .ok (.getfield 18, 3) := by decide +kernel
theorem dX4_afterDay_64 : decode cX4_afterDay 64 = .ok (.invokevirtual 172, 3) := by decide +kernel
theorem dX4_afterDay_67 : decode cX4_afterDay 67 = .ok (.ireturn, 1) := by decide +kernel
theorem dX4_afterDay_68 : decode cX4_afterDay 68 = .ok (.aload_n 0, 1) := by decide +kernel
theorem dX4_afterDay_69 : decode cX4_afterDay 69 = .ok (.getfield 18, 3) := by decide +kernel
theorem dX4_afterDay_72 : decode cX4_afterDay 72 = .ok (.iload_n 1, 1) := by decide +kernel
theorem dX4_afterDay_73 : decode cX4_afterDay 73 = .ok (.bipush 10, 2) := by decide +kernel
theorem dX4_afterDay_75 : decode cX4_afterDay 75 = .ok (.isub, 1) := by decide +kernel
theorem dX4_afterDay_76 : decode cX4_afterDay 76 = .ok (.invokevirtual 83, 3) := by decide +kernel
theorem dX4_afterDay_79 : decode cX4_afterDay 79 = .ok (.ifCond .eq 17, 3) := by decide +kernel
theorem dX4_afterDay_82 : decode cX4_afterDay 82 = .ok (.aload_n 0, 1) := by decide +kernel
theorem dX4_afterDay_83 : decode cX4_afterDay 83 = .ok (.getfield 18, 3) := by decide +kernel
theorem dX4_afterDay_86 : decode cX4_afterDay 86 = .ok (.iload_n 1, 1) := by decide +kernel
theorem dX4_afterDay_87 : decode cX4_afterDay 87 = .ok (.bipush 10, 2) := by decide +kernel
theorem dX4_afterDay_89 : decode cX4_afterDay 89 = .ok (.isub, 1) := by decide +kernel
theorem dX4_afterDay_90 : decode cX4_afterDay 90 = .ok (.invokevirtual 89, 3) := by decide +kernel
theorem dX4_afterDay_93 : decode cX4_afterDay 93 = .ok (.goto 5, 3) := by decide +kernel
theorem dX4_afterDay_96 : decode cX4_afterDay 96 = .ok (.bipush (-9), 2) := by decide +kernel
theorem dX4_afterDay_98 : decode cX4_afterDay 98 = .ok (.ireturn, 1) := by decide +kernel
set_option maxRecDepth 20000 in
theorem ggX4_unlawful_X3_size : GoodIn wsX4_unlawful wsX3_size := goodIn_r _ [6, 7, 48, 49, 50, 51, 52, 53, 54] (by decide +kernel) (by decide +kernel)
set_option maxRecDepth 20000 in
theorem gX4_unlawful_X3_size : GoodIn wsX4_unlawful (wsV RX4 82 RX3 yX3_size wsX3_size) := goodIn_app (goodIn_of _ (by decide +kernel)) ggX4_unlawful_X3_size
set_option maxRecDepth 20000 in
theorem ggX4_unlawful_X3_notLawful : GoodIn wsX4_unlawful wsX3_notLawful := goodIn_r _ [11, 7, 12, 13, 14, 5, 15, 16, 17, 18, 19, 20, 21, 22, 23, 24, 25, 26, 27, 28, 29, 30, 31, 32, 33, 34, 35, 36, 37, 38, 39, 40, 48, 49, 50, 51, 52, 53, 54] (by decide +kernel) (by decide +kernel)
set_option maxRecDepth 20000 in
theorem gX4_unlawful_X3_notLawful : GoodIn wsX4_unlawful (wsV RX4 169 RX3 yX3_notLawful wsX3_notLawful) := goodIn_app (goodIn_of _ (by decide +kernel)) ggX4_unlawful_X3_notLawful
theorem dX4_unlawful_0 : decode cX4_unlawful 0 = .ok (.aload_n 0, 1) := by decide +kernel
theorem dX4_unlawful_1 : decode cX4_unlawful 1 = .ok (.getfield 12, 3) := by decide +kernel
theorem dX4_unlawful_4 : decode cX4_unlawful 4 = .ok (.invokevirtual 82, 3) := by decide +kernel
theorem dX4_unlawful_7 : decode cX4_unlawful 7 = .ok (.ifCond .ne 8, 3) := by decide +kernel
theorem dX4_unlawful_10 : decode cX4_unlawful 10 = .ok (.bipush (-3), 2) := by decide +kernel
theorem dX4_unlawful_12 : decode cX4_unlawful 12 = .ok (.goto 10, 3) := by decide +kernel
theorem dX4_unlawful_15 : decode cX4_unlawful 15 = .ok (.aload_n 0, 1) := by decide +kernel
theorem dX4_unlawful_16 : decode cX4_unlawful 16 = .ok (.getfield 12, 3) := by decide +kernel
theorem dX4_unlawful_19 : decode cX4_unlawful 19 = .ok (.invokevirtual 169, 3) := by decide +kernel
theorem dX4_unlawful_22 : decode cX4_unlawful 22 = .ok (.ireturn, 1) := by decide +kernel
set_option maxRecDepth 20000 in
theorem ggX4_past_X3_isThing : GoodIn wsX4_past wsX3_isThing := goodIn_r _ [6, 7, 58, 59, 60, 61, 62, 63, 64] (by decide +kernel) (by decide +kernel)
set_option maxRecDepth 20000 in
theorem gX4_past_X3_isThing : GoodIn wsX4_past (wsV RX4 83 RX3 yX3_isThing wsX3_isThing) := goodIn_app (goodIn_of _ (by decide +kernel)) ggX4_past_X3_isThing
set_option maxRecDepth 20000 in
theorem ggX4_past_X4_isBetween : GoodIn wsX4_past wsX4_isBetween := goodIn_r _ [11] (by decide +kernel) (by decide +kernel)
set_option maxRecDepth 20000 in
theorem gX4_past_X4_isBetween : GoodIn wsX4_past (va_wsS RX4 143 yX4_isBetween wsX4_isBetween) := goodIn_app (goodIn_of _ (by decide +kernel)) ggX4_past_X4_isBetween
set_option maxRecDepth 20000 in
theorem ggX4_past_X3_findWayPast : GoodIn wsX4_past wsX3_findWayPast := goodIn_r _ [15, 16, 17, 10, 18, 19, 20, 21, 5, 22, 23, 24, 25, 26, 27, 28, 29, 30, 31, 32, 33, 3, 4, 6, 7, 58, 59, 60, 61, 62, 63, 64] (by decide +kernel) (by decide +kernel)
set_option maxRecDepth 20000 in
theorem gX4_past_X3_findWayPast : GoodIn wsX4_past (wsV RX4 175 RX3 yX3_findWayPast wsX3_findWayPast) := goodIn_app (goodIn_of _ (by decide +kernel)) ggX4_past_X3_findWayPast
set_option maxRecDepth 20000 in
theorem ggX4_past_X3_stopOfWayPast : GoodIn wsX4_past wsX3_stopOfWayPast := goodIn_r _ [37, 16, 38, 13, 14, 5, 15, 17, 10, 18, 19, 20, 21, 22, 23, 24, 25, 26, 27, 28, 29, 30, 31, 32, 33, 3, 4, 6, 7, 39, 40, 41, 42, 43, 44, 45, 46, 47, 48, 49, 50, 58, 59, 60, 61, 62, 63, 64] (by decide +kernel) (by decide +kernel)
set_option maxRecDepth 20000 in
theorem gX4_past_X3_stopOfWayPast : GoodIn wsX4_past (wsV RX4 178 RX3 yX3_stopOfWayPast wsX3_stopOfWayPast) := goodIn_app (goodIn_of _ (by decide +kernel)) ggX4_past_X3_stopOfWayPast
theorem dX4_past_0 : decode cX4_past 0 = .ok (.aload_n 0, 1) := by decide +kernel
theorem dX4_past_1 : decode cX4_past 1 = .ok (.getfield 12, 3) := by decide +kernel
theorem dX4_past_4 : decode cX4_past 4 = .ok (.iload_n 1, 1) := by decide +kernel
theorem dX4_past_5 : decode cX4_past 5 = .ok (.invokevirtual 83, 3) := by decide +kernel
theorem dX4_past_8 : decode cX4_past 8 = .ok (.ifCond .ne 5, 3) := by decide +kernel
theorem dX4_past_11 : decode cX4_past 11 = .ok (.iconst (-1), 1) := by decide +kernel
theorem dX4_past_12 : decode cX4_past 12 = .ok (.ireturn, 1) := by decide +kernel
theorem dX4_past_13 : decode cX4_past 13 = .ok (.iload_n 2, 1) := by decide +kernel
theorem dX4_past_14 : decode cX4_past 14 = .ok (.iconst (-1), 1) := by decide +kernel
theorem dX4_past_15 : decode cX4_past 15 = .ok (.iconst 5, 1) := by decide +kernel
theorem dX4_past_16 : decode cX4_past 16 = .ok (.invokestatic 143, 3) := by decide +kernel
theorem dX4_past_19 : decode cX4_past 19 = .ok (.ifCond .ne 6, 3) := by decide +kernel
theorem dX4_past_22 : decode cX4_past 22 = .ok (.bipush (-2), 2) := by decide +kernel
theorem dX4_past_24 : decode cX4_past 24 = .ok (.ireturn, 1) := by decide +kernel
theorem dX4_past_25 : decode cX4_past 25 = .ok (.iload_n 2, 1) := by decide +kernel
theorem dX4_past_26 : decode cX4_past 26 = .ok (.iconst (-1), 1) := by decide +kernel
theorem dX4_past_27 : decode cX4_past 27 = .ok (.if_icmp .ne 14, 3) := by decide +kernel
theorem dX4_past_30 : decode cX4_past 30 = .ok (.aload_n 0, 1) := by decide +kernel
theorem dX4_past_31 : decode cX4_past 31 = .ok (.getfield 12, 3) := by decide +kernel
theorem dX4_past_34 : decode cX4_past 34 = .ok (.iload_n 1, 1) := by decide +kernel
theorem dX4_past_35 : decode cX4_past 35 = .ok (.invokevirtual 175, 3) := by decide +kernel
theorem dX4_past_38 : decode cX4_past 38 = .ok (.goto 12, 3) := by decide +kernel
theorem dX4_past_41 : decode cX4_past 41 = .ok (.aload_n 0, 1) := by decide +kernel
theorem dX4_past_42 : decode cX4_past 42 = .ok (.getfield 12, 3) := by decide +kernel
theorem dX4_past_45 : decode cX4_past 45 = .ok (.iload_n 1, 1) := by decide +kernel
theorem dX4_past_46 : decode cX4_past 46 = .ok (.iload_n 2, 1) := by decide +kernel
theorem dX4_past_47 : decode cX4_past 47 = .ok (.invokevirtual 178, 3) := by decide +kernel
theorem dX4_past_50 : decode cX4_past 50 = .ok (.ireturn, 1) := by decide +kernel
set_option maxRecDepth 20000 in
theorem ggX4_odds_X3_howManyReferences : GoodIn wsX4_odds wsX3_howManyReferences := goodIn_r _ [7, 8, 73, 74, 75, 76, 77, 78, 79] (by decide +kernel) (by decide +kernel)
set_option maxRecDepth 20000 in
theorem gX4_odds_X3_howManyReferences : GoodIn wsX4_odds (wsV RX4 166 RX3 yX3_howManyReferences wsX3_howManyReferences) := goodIn_app (goodIn_of _ (by decide +kernel)) ggX4_odds_X3_howManyReferences
set_option maxRecDepth 20000 in
theorem ggX4_odds_X4_isBetween : GoodIn wsX4_odds wsX4_isBetween := goodIn_r _ [12] (by decide +kernel) (by decide +kernel)
set_option maxRecDepth 20000 in
theorem gX4_odds_X4_isBetween : GoodIn wsX4_odds (va_wsS RX4 143 yX4_isBetween wsX4_isBetween) := goodIn_app (goodIn_of _ (by decide +kernel)) ggX4_odds_X4_isBetween
set_option maxRecDepth 20000 in
theorem ggX4_odds_X4_howManyGoodCuts : GoodIn wsX4_odds wsX4_howManyGoodCuts := goodIn_r _ [16, 17, 1, 18, 19, 20, 6, 21, 22, 8, 23, 24, 25, 26, 27, 28, 29, 30, 31, 32, 33, 34, 35, 36, 37, 38, 39, 40, 41, 42, 43, 44, 45, 46, 47, 48, 49, 50, 51, 52, 53, 54, 55, 11, 56, 57, 58, 59, 60, 61, 62, 66, 67, 68, 69, 70, 71, 72, 73, 74, 75, 76, 77, 78, 79] (by decide +kernel) (by decide +kernel)
set_option maxRecDepth 20000 in
theorem gX4_odds_X4_howManyGoodCuts : GoodIn wsX4_odds (wsV RX4 203 RX4 yX4_howManyGoodCuts wsX4_howManyGoodCuts) := goodIn_app (goodIn_of _ (by decide +kernel)) ggX4_odds_X4_howManyGoodCuts
set_option maxRecDepth 20000 in
theorem ggX4_odds_X4_commonDivisor : GoodIn wsX4_odds wsX4_commonDivisor := goodIn_r _ [65] (by decide +kernel) (by decide +kernel)
set_option maxRecDepth 20000 in
theorem gX4_odds_X4_commonDivisor : GoodIn wsX4_odds (va_wsS RX4 206 yX4_commonDivisor wsX4_commonDivisor) := goodIn_app (goodIn_of _ (by decide +kernel)) ggX4_odds_X4_commonDivisor
theorem dX4_odds_0 : decode cX4_odds 0 = .ok (.aload_n 0, 1) := by decide +kernel
theorem dX4_odds_1 : decode cX4_odds 1 = .ok (.getfield 12, 3) := by decide +kernel
theorem dX4_odds_4 : decode cX4_odds 4 = .ok (.invokevirtual 166, 3) := by decide +kernel
theorem dX4_odds_7 : decode cX4_odds 7 = .ok (.istore_n 2, 1) := by decide +kernel
theorem dX4_odds_8 : decode cX4_odds 8 = .ok (.iload_n 1, 1) := by decide +kernel
theorem dX4_odds_9 : decode cX4_odds 9 = .ok (.iconst 0, 1) := by decide +kernel
theorem dX4_odds_10 : decode cX4_odds 10 = .ok (.iconst 1, 1) := by decide +kernel
theorem dX4_odds_11 : decode cX4_odds 11 = .ok (.invokestatic 143, 3) := by decide +kernel
theorem dX4_odds_14 : decode cX4_odds 14 = .ok (.ifCond .eq 7, 3) := by decide +kernel
theorem dX4_odds_17 : decode cX4_odds 17 = .ok (.iload_n 2, 1) := by decide +kernel
theorem dX4_odds_18 : decode cX4_odds 18 = .ok (.ifCond .ne 7, 3) := by decide +kernel
theorem dX4_odds_21 : decode cX4_odds 21 = .ok (.ldc2_w 201, 3) := by decide +kernel
theorem dX4_odds_24 : decode cX4_odds 24 = .ok (.lreturn, 1) := by decide +kernel
theorem dX4_odds_25 : decode cX4_odds 25 = .ok (.aload_n 0, 1) := by decide +kernel
theorem dX4_odds_26 : decode cX4_odds 26 = .ok (.iload_n 2, 1) := by decide +kernel
theorem dX4_odds_27 : decode cX4_odds 27 = .ok (.invokevirtual 203, 3) := by decide +kernel
theorem dX4_odds_30 : decode cX4_odds 30 = .ok (.istore_n 3, 1) := by decide +kernel
theorem dX4_odds_31 : decode cX4_odds 31 = .ok (.iload_n 2, 1) := by decide +kernel
theorem dX4_odds_32 : decode cX4_odds 32 = .ok (.iload_n 3, 1) := by decide +kernel
theorem dX4_odds_33 : decode cX4_odds 33 = .ok (.invokestatic 206, 3) := by decide +kernel
theorem dX4_odds_36 : decode cX4_odds 36 = .ok (.istore 4, 2) := by decide +kernel
theorem dX4_odds_38 : decode cX4_odds 38 = .ok (.iload 4, 2) := by decide +kernel
theorem dX4_odds_40 : decode cX4_odds 40 = .ok (.ifCond .ne 7, 3) := by decide +kernel
theorem dX4_odds_43 : decode cX4_odds 43 = .ok (.ldc2_w 201, 3) := by decide +kernel
theorem dX4_odds_46 : decode cX4_odds 46 = .ok (.lreturn, 1) := by decide +kernel
theorem dX4_odds_47 : decode cX4_odds 47 = .ok (.iload_n 1, 1) := by decide +kernel
theorem dX4_odds_48 : decode cX4_odds 48 = .ok (.ifCond .ne 7, 3) := by decide +kernel
theorem dX4_odds_51 : decode cX4_odds 51 = .ok (.iload_n 3, 1) := by decide +kernel
theorem dX4_odds_52 : decode cX4_odds 52 = .ok (.goto 4, 3) := by decide +kernel
theorem dX4_odds_55 : decode cX4_odds 55 = .ok (.iload_n 2, 1) := by decide +kernel
theorem dX4_odds_56 : decode cX4_odds 56 = .ok (.iload 4, 2) := by decide +kernel
theorem dX4_odds_58 : decode cX4_odds 58 = .ok (.idiv, 1) := by decide +kernel
theorem dX4_odds_59 : decode cX4_odds 59 = .ok (.i2l, 1) := by decide +kernel
theorem dX4_odds_60 : decode cX4_odds 60 = .ok (.lreturn, 1) := by decide +kernel
set_option maxRecDepth 20000 in
theorem ggX4_howManyGoodCuts_X3_become : GoodIn wsX4_howManyGoodCuts wsX3_become := goodIn_r _ [7, 8, 9, 10, 11, 12, 13, 14, 15, 16, 17, 58, 59, 60, 61, 62, 63, 64] (by decide +kernel) (by decide +kernel)
set_option maxRecDepth 20000 in
theorem gX4_howManyGoodCuts_X3_become : GoodIn wsX4_howManyGoodCuts (wsV RX4 70 RX3 yX3_become wsX3_become) := goodIn_app (goodIn_of _ (by decide +kernel)) ggX4_howManyGoodCuts_X3_become
set_option maxRecDepth 20000 in
theorem ggX4_howManyGoodCuts_X3_cut : GoodIn wsX4_howManyGoodCuts wsX3_cut := goodIn_r _ [21, 9, 16, 17, 58, 59, 60, 61, 62, 63, 64] (by decide +kernel) (by decide +kernel)
set_option maxRecDepth 20000 in
theorem gX4_howManyGoodCuts_X3_cut : GoodIn wsX4_howManyGoodCuts (wsV RX4 209 RX3 yX3_cut wsX3_cut) := goodIn_app (goodIn_of _ (by decide +kernel)) ggX4_howManyGoodCuts_X3_cut
set_option maxRecDepth 20000 in
theorem ggX4_howManyGoodCuts_X3_notLawful : GoodIn wsX4_howManyGoodCuts wsX3_notLawful := goodIn_r _ [25, 8, 26, 27, 28, 6, 29, 30, 31, 32, 33, 15, 34, 35, 36, 37, 38, 39, 40, 41, 42, 43, 44, 45, 46, 47, 48, 9, 16, 17, 49, 50, 58, 59, 60, 61, 62, 63, 64] (by decide +kernel) (by decide +kernel)
set_option maxRecDepth 20000 in
theorem gX4_howManyGoodCuts_X3_notLawful : GoodIn wsX4_howManyGoodCuts (wsV RX4 169 RX3 yX3_notLawful wsX3_notLawful) := goodIn_app (goodIn_of _ (by decide +kernel)) ggX4_howManyGoodCuts_X3_notLawful
theorem dX4_howManyGoodCuts_0 : decode cX4_howManyGoodCuts 0 = .ok (.iconst 0, 1) := by decide +kernel
theorem dX4_howManyGoodCuts_1 : decode cX4_howManyGoodCuts 1 = .ok (.istore_n 2, 1) := by decide +kernel
theorem dX4_howManyGoodCuts_2 : decode cX4_howManyGoodCuts 2 = .ok (.iconst 0, 1) := by decide +kernel
theorem dX4_howManyGoodCuts_3 : decode cX4_howManyGoodCuts 3 = .ok (.istore_n 3, 1) := by decide +kernel
theorem dX4_howManyGoodCuts_4 : decode cX4_howManyGoodCuts 4 = .ok (.iload_n 3, 1) := by decide +kernel
theorem dX4_howManyGoodCuts_5 : decode cX4_howManyGoodCuts 5 = .ok (.iload_n 1, 1) := by decide +kernel
theorem dX4_howManyGoodCuts_6 : decode cX4_howManyGoodCuts 6 = .ok (.if_icmp .ge 41, 3) := by decide +kernel
theorem dX4_howManyGoodCuts_9 : decode cX4_howManyGoodCuts 9 = .ok (.aload_n 0, 1) := by decide +kernel
theorem dX4_howManyGoodCuts_10 : decode cX4_howManyGoodCuts 10 = .ok (.getfield 18, 3) := by decide +kernel
theorem dX4_howManyGoodCuts_13 : decode cX4_howManyGoodCuts 13 = .ok (.aload_n 0, 1) := by decide +kernel
theorem dX4_howManyGoodCuts_14 : decode cX4_howManyGoodCuts 14 = .ok (.getfield 12, 3) := by decide +kernel
theorem dX4_howManyGoodCuts_17 : decode cX4_howManyGoodCuts 17 = .ok (.invokevirtual 70, 3) := by decide +kernel
theorem dX4_howManyGoodCuts_20 : decode cX4_howManyGoodCuts 20 = .ok (.aload_n 0, 1) := by decide +kernel
theorem dX4_howManyGoodCuts_21 : decode cX4_howManyGoodCuts 21 = .ok (.getfield 18, 3) := by decide +kernel
theorem dX4_howManyGoodCuts_24 : decode cX4_howManyGoodCuts 24 = .ok (.iload_n 3, 1) := by decide +kernel
theorem dX4_howManyGoodCuts_25 : decode cX4_howManyGoodCuts 25 = .ok (.invokevirtual 209, 3) := by decide +kernel
theorem dX4_howManyGoodCuts_28 : decode cX4_howManyGoodCuts 28 = .ok (.aload_n 0, 1) := by decide +kernel
theorem dX4_howManyGoodCuts_29 : decode cX4_howManyGoodCuts 29 = .ok (.getfield 18, 3) := by decide +kernel
theorem dX4_howManyGoodCuts_32 : decode cX4_howManyGoodCuts 32 = .ok (.invokevirtual 169, 3) := by decide +kernel
theorem dX4_howManyGoodCuts_35 : decode cX4_howManyGoodCuts 35 = .ok (.ifCond .ne 6, 3) := by decide +kernel
theorem dX4_howManyGoodCuts_38 : decode cX4_howManyGoodCuts 38 = .ok (.iinc 2 1, 3) := by decide +kernel
theorem dX4_howManyGoodCuts_41 : decode cX4_howManyGoodCuts 41 = .ok (.iinc 3 1, 3) := by decide +kernel
theorem dX4_howManyGoodCuts_44 : decode cX4_howManyGoodCuts 44 = .ok (.goto (-40), 3) := by decide +kernel
theorem dX4_howManyGoodCuts_47 : decode cX4_howManyGoodCuts 47 = .ok (.iload_n 2, 1) := by decide +kernel
theorem dX4_howManyGoodCuts_48 : decode cX4_howManyGoodCuts 48 = .ok (.ireturn, 1) := by decide +kernel
theorem dX4_commonDivisor_0 : decode cX4_commonDivisor 0 = .ok (.iload_n 0, 1) := by decide +kernel
theorem dX4_commonDivisor_1 : decode cX4_commonDivisor 1 = .ok (.istore_n 2, 1) := by decide +kernel
theorem dX4_commonDivisor_2 : decode cX4_commonDivisor 2 = .ok (.iload_n 2, 1) := by decide +kernel
theorem dX4_commonDivisor_3 : decode cX4_commonDivisor 3 = .ok (.iconst 1, 1) := by decide +kernel
theorem dX4_commonDivisor_4 : decode cX4_commonDivisor 4 = .ok (.if_icmp .le 23, 3) := by decide +kernel
theorem dX4_commonDivisor_7 : decode cX4_commonDivisor 7 = .ok (.iload_n 0, 1) := by decide +kernel
theorem dX4_commonDivisor_8 : decode cX4_commonDivisor 8 = .ok (.iload_n 2, 1) := by decide +kernel
theorem dX4_commonDivisor_9 : decode cX4_commonDivisor 9 = .ok (.irem, 1) := by decide +kernel
theorem dX4_commonDivisor_10 : decode cX4_commonDivisor 10 = .ok (.ifCond .ne 11, 3) := by decide +kernel
theorem dX4_commonDivisor_13 : decode cX4_commonDivisor 13 = .ok (.iload_n 1, 1) := by decide +kernel
theorem dX4_commonDivisor_14 : decode cX4_commonDivisor 14 = .ok (.iload_n 2, 1) := by decide +kernel
theorem dX4_commonDivisor_15 : decode cX4_commonDivisor 15 = .ok (.irem, 1) := by decide +kernel
theorem dX4_commonDivisor_16 : decode cX4_commonDivisor 16 = .ok (.ifCond .ne 5, 3) := by decide +kernel
theorem dX4_commonDivisor_19 : decode cX4_commonDivisor 19 = .ok (.iload_n 2, 1) := by decide +kernel
theorem dX4_commonDivisor_20 : decode cX4_commonDivisor 20 = .ok (.ireturn, 1) := by decide +kernel
theorem dX4_commonDivisor_21 : decode cX4_commonDivisor 21 = .ok (.iinc 2 (-1), 3) := by decide +kernel
theorem dX4_commonDivisor_24 : decode cX4_commonDivisor 24 = .ok (.goto (-22), 3) := by decide +kernel
theorem dX4_commonDivisor_27 : decode cX4_commonDivisor 27 = .ok (.iconst 1, 1) := by decide +kernel
theorem dX4_commonDivisor_28 : decode cX4_commonDivisor 28 = .ok (.ireturn, 1) := by decide +kernel
set_option maxRecDepth 20000 in
theorem ggX4_sheet_X4_isSheet : GoodIn wsX4_sheet wsX4_isSheet := goodIn_r _ [6, 7, 8, 5, 9] (by decide +kernel) (by decide +kernel)
set_option maxRecDepth 20000 in
theorem gX4_sheet_X4_isSheet : GoodIn wsX4_sheet (va_wsS RX4 51 yX4_isSheet wsX4_isSheet) := goodIn_app (goodIn_of _ (by decide +kernel)) ggX4_sheet_X4_isSheet
set_option maxRecDepth 20000 in
theorem ggX4_sheet_X4_isLane : GoodIn wsX4_sheet wsX4_isLane := goodIn_r _ [12, 7, 8, 5, 9] (by decide +kernel) (by decide +kernel)
set_option maxRecDepth 20000 in
theorem gX4_sheet_X4_isLane : GoodIn wsX4_sheet (va_wsS RX4 55 yX4_isLane wsX4_isLane) := goodIn_app (goodIn_of _ (by decide +kernel)) ggX4_sheet_X4_isLane
set_option maxRecDepth 20000 in
theorem ggX4_sheet_X4_failed : GoodIn wsX4_sheet wsX4_failed := goodIn_r _ [16, 1, 25, 26, 27, 28, 29, 30, 31] (by decide +kernel) (by decide +kernel)
set_option maxRecDepth 20000 in
theorem gX4_sheet_X4_failed : GoodIn wsX4_sheet (wsV RX4 62 RX4 yX4_failed wsX4_failed) := goodIn_app (goodIn_of _ (by decide +kernel)) ggX4_sheet_X4_failed
set_option maxRecDepth 20000 in
theorem ggX4_sheet_X1_renew : GoodIn wsX4_sheet wsX1_renew := goodIn_r _ [21, 22, 23, 24, 32, 33, 34] (by decide +kernel) (by decide +kernel)
set_option maxRecDepth 20000 in
theorem gX4_sheet_X1_renew : GoodIn wsX4_sheet (wsV RX4 212 RX1 yX1_renew wsX1_renew) := goodIn_app (goodIn_of _ (by decide +kernel)) ggX4_sheet_X1_renew
theorem dX4_sheet_0 : decode cX4_sheet 0 = .ok (.aload_n 0, 1) := by decide +kernel
theorem dX4_sheet_1 : decode cX4_sheet 1 = .ok (.iconst 0, 1) := by decide +kernel
theorem dX4_sheet_2 : decode cX4_sheet 2 = .ok (.putfield 48, 3) := by decide +kernel
theorem dX4_sheet_5 : decode cX4_sheet 5 = .ok (.iload_n 1, 1) := by decide +kernel
theorem dX4_sheet_6 : decode cX4_sheet 6 = .ok (.invokestatic 51, 3) := by decide +kernel
theorem dX4_sheet_9 : decode cX4_sheet 9 = .ok (.ifCond .ne 5, 3) := by decide +kernel
theorem dX4_sheet_12 : decode cX4_sheet 12 = .ok (.iconst (-1), 1) := by decide +kernel
theorem dX4_sheet_13 : decode cX4_sheet 13 = .ok (.ireturn, 1) := by decide +kernel
theorem dX4_sheet_14 : decode cX4_sheet 14 = .ok (.iload_n 2, 1) := by decide +kernel
theorem dX4_sheet_15 : decode cX4_sheet 15 = .ok (.invokestatic 55, 3) := by decide +kernel
theorem dX4_sheet_18 : decode cX4_sheet 18 = .ok (.ifCond .eq 9, 3) := by decide +kernel
theorem dX4_sheet_21 : decode cX4_sheet 21 = .ok (.iload_n 3, 1) := by decide +kernel
theorem dX4_sheet_22 : decode cX4_sheet 22 = .ok (.bipush 60, 2) := by decide +kernel
theorem dX4_sheet_24 : decode cX4_sheet 24 = .ok (.if_icmp .le 6, 3) := by decide +kernel
theorem dX4_sheet_27 : decode cX4_sheet 27 = .ok (.bipush (-2), 2) := by decide +kernel
theorem dX4_sheet_29 : decode cX4_sheet 29 = .ok (.ireturn, 1) := by decide +kernel
theorem dX4_sheet_30 : decode cX4_sheet 30 = .ok (.iload_n 3, 1) := by decide +kernel
theorem dX4_sheet_31 : decode cX4_sheet 31 = .ok (.ifCond .ge 9, 3) := by decide +kernel
theorem dX4_sheet_34 : decode cX4_sheet 34 = .ok (.aload_n 0, 1) := by decide +kernel
theorem dX4_sheet_35 : decode cX4_sheet 35 = .ok (.iconst 4, 1) := by decide +kernel
theorem dX4_sheet_36 : decode cX4_sheet 36 = .ok (.invokevirtual 62, 3) := by decide +kernel
theorem dX4_sheet_39 : decode cX4_sheet 39 = .ok (.ireturn, 1) := by decide +kernel
theorem dX4_sheet_40 : decode cX4_sheet 40 = .ok (.aload_n 0, 1) := by decide +kernel
theorem dX4_sheet_41 : decode cX4_sheet 41 = .ok (.getfield 30, 3) := by decide +kernel
theorem dX4_sheet_44 : decode cX4_sheet 44 = .ok (.iload_n 1, 1) := by decide +kernel
theorem dX4_sheet_45 : decode cX4_sheet 45 = .ok (.aaload, 1) := by decide +kernel
theorem dX4_sheet_46 : decode cX4_sheet 46 = .ok (.iload_n 2, 1) := by decide +kernel
theorem dX4_sheet_47 : decode cX4_sheet 47 = .ok (.iload_n 3, 1) := by decide +kernel
theorem dX4_sheet_48 : decode cX4_sheet 48 = .ok (.invokevirtual 212, 3) := by decide +kernel
theorem dX4_sheet_51 : decode cX4_sheet 51 = .ok (.iconst 1, 1) := by decide +kernel
theorem dX4_sheet_52 : decode cX4_sheet 52 = .ok (.ireturn, 1) := by decide +kernel
set_option maxRecDepth 20000 in
theorem ggX4_put_X4_isSheet : GoodIn wsX4_put wsX4_isSheet := goodIn_r _ [6, 7, 8, 5, 9] (by decide +kernel) (by decide +kernel)
set_option maxRecDepth 20000 in
theorem gX4_put_X4_isSheet : GoodIn wsX4_put (va_wsS RX4 51 yX4_isSheet wsX4_isSheet) := goodIn_app (goodIn_of _ (by decide +kernel)) ggX4_put_X4_isSheet
set_option maxRecDepth 20000 in
theorem ggX4_put_X1_laneOf : GoodIn wsX4_put wsX1_laneOf := goodIn_r _ [14, 15, 49, 50, 51] (by decide +kernel) (by decide +kernel)
set_option maxRecDepth 20000 in
theorem gX4_put_X1_laneOf : GoodIn wsX4_put (wsV RX4 222 RX1 yX1_laneOf wsX1_laneOf) := goodIn_app (goodIn_of _ (by decide +kernel)) ggX4_put_X1_laneOf
set_option maxRecDepth 20000 in
theorem ggX4_put_X1_rowFault : GoodIn wsX4_put wsX1_rowFault := goodIn_r _ [19, 15, 20, 21, 22, 13, 23, 24, 25, 26, 27, 28, 49, 50, 51] (by decide +kernel) (by decide +kernel)
set_option maxRecDepth 20000 in
theorem gX4_put_X1_rowFault : GoodIn wsX4_put (wsV RX4 58 RX1 yX1_rowFault wsX1_rowFault) := goodIn_app (goodIn_of _ (by decide +kernel)) ggX4_put_X1_rowFault
set_option maxRecDepth 20000 in
theorem ggX4_put_X4_failed : GoodIn wsX4_put wsX4_failed := goodIn_r _ [32, 1, 42, 43, 44, 45, 46, 47, 48] (by decide +kernel) (by decide +kernel)
set_option maxRecDepth 20000 in
theorem gX4_put_X4_failed : GoodIn wsX4_put (wsV RX4 62 RX4 yX4_failed wsX4_failed) := goodIn_app (goodIn_of _ (by decide +kernel)) ggX4_put_X4_failed
set_option maxRecDepth 20000 in
theorem ggX4_put_X1_setAt : GoodIn wsX4_put wsX1_setAt := goodIn_r _ [36, 24, 37, 38, 39, 40, 13, 41, 15, 49, 50, 51] (by decide +kernel) (by decide +kernel)
set_option maxRecDepth 20000 in
theorem gX4_put_X1_setAt : GoodIn wsX4_put (wsV RX4 225 RX1 yX1_setAt wsX1_setAt) := goodIn_app (goodIn_of _ (by decide +kernel)) ggX4_put_X1_setAt
theorem dX4_put_0 : decode cX4_put 0 = .ok (.aload_n 0, 1) := by decide +kernel
theorem dX4_put_1 : decode cX4_put 1 = .ok (.iconst 0, 1) := by decide +kernel
theorem dX4_put_2 : decode cX4_put 2 = .ok (.putfield 48, 3) := by decide +kernel
theorem dX4_put_5 : decode cX4_put 5 = .ok (.iload_n 1, 1) := by decide +kernel
theorem dX4_put_6 : decode cX4_put 6 = .ok (.invokestatic 51, 3) := by decide +kernel
theorem dX4_put_9 : decode cX4_put 9 = .ok (.ifCond .ne 5, 3) := by decide +kernel
theorem dX4_put_12 : decode cX4_put 12 = .ok (.iconst (-1), 1) := by decide +kernel
theorem dX4_put_13 : decode cX4_put 13 = .ok (.ireturn, 1) := by decide +kernel
theorem dX4_put_14 : decode cX4_put 14 = .ok (.aload_n 0, 1) := by decide +kernel
theorem dX4_put_15 : decode cX4_put 15 = .ok (.getfield 30, 3) := by decide +kernel
theorem dX4_put_18 : decode cX4_put 18 = .ok (.iload_n 1, 1) := by decide +kernel
theorem dX4_put_19 : decode cX4_put 19 = .ok (.aaload, 1) := by decide +kernel
theorem dX4_put_20 : decode cX4_put 20 = .ok (.astore 4, 2) := by decide +kernel
theorem dX4_put_22 : decode cX4_put 22 = .ok (.aload 4, 2) := by decide +kernel
theorem dX4_put_24 : decode cX4_put 24 = .ok (.aload 4, 2) := by decide +kernel
theorem dX4_put_26 : decode cX4_put 26 = .ok (.invokevirtual 222, 3) := by decide +kernel
theorem dX4_put_29 : decode cX4_put 29 = .ok (.iload_n 2, 1) := by decide +kernel
theorem dX4_put_30 : decode cX4_put 30 = .ok (.iconst 1, 1) := by decide +kernel
theorem dX4_put_31 : decode cX4_put 31 = .ok (.invokevirtual 58, 3) := by decide +kernel
theorem dX4_put_34 : decode cX4_put 34 = .ok (.istore 5, 2) := by decide +kernel
theorem dX4_put_36 : decode cX4_put 36 = .ok (.iload 5, 2) := by decide +kernel
theorem dX4_put_38 : decode cX4_put 38 = .ok (.ifCond .eq 10, 3) := by decide +kernel
theorem dX4_put_41 : decode cX4_put 41 = .ok (.aload_n 0, 1) := by decide +kernel
theorem dX4_put_42 : decode cX4_put 42 = .ok (.iload 5, 2) := by decide +kernel
theorem dX4_put_44 : decode cX4_put 44 = .ok (.invokevirtual 62, 3) := by decide +kernel
theorem dX4_put_47 : decode cX4_put 47 = .ok (.ireturn, 1) := by decide +kernel
theorem dX4_put_48 : decode cX4_put 48 = .ok (.aload 4, 2) := by decide +kernel
theorem dX4_put_50 : decode cX4_put 50 = .ok (.iload_n 2, 1) := by decide +kernel
theorem dX4_put_51 : decode cX4_put 51 = .ok (.iload_n 3, 1) := by decide +kernel
theorem dX4_put_52 : decode cX4_put 52 = .ok (.invokevirtual 225, 3) := by decide +kernel
theorem dX4_put_55 : decode cX4_put 55 = .ok (.iconst 1, 1) := by decide +kernel
theorem dX4_put_56 : decode cX4_put 56 = .ok (.ireturn, 1) := by decide +kernel
set_option maxRecDepth 20000 in
theorem ggX4_many_X3_size : GoodIn wsX4_many wsX3_size := goodIn_r _ [7, 8, 70, 71, 72, 73, 74, 75, 76] (by decide +kernel) (by decide +kernel)
set_option maxRecDepth 20000 in
theorem gX4_many_X3_size : GoodIn wsX4_many (wsV RX4 82 RX3 yX3_size wsX3_size) := goodIn_app (goodIn_of _ (by decide +kernel)) ggX4_many_X3_size
set_option maxRecDepth 20000 in
theorem ggX4_many_X3_howManyReferences : GoodIn wsX4_many wsX3_howManyReferences := goodIn_r _ [12, 13, 70, 71, 72, 73, 74, 75, 76] (by decide +kernel) (by decide +kernel)
set_option maxRecDepth 20000 in
theorem gX4_many_X3_howManyReferences : GoodIn wsX4_many (wsV RX4 166 RX3 yX3_howManyReferences wsX3_howManyReferences) := goodIn_app (goodIn_of _ (by decide +kernel)) ggX4_many_X3_howManyReferences
set_option maxRecDepth 20000 in
theorem ggX4_many_X3_reached : GoodIn wsX4_many wsX3_reached := goodIn_r _ [17, 18, 19, 20, 6, 21, 22, 23, 24, 25, 26, 27, 28, 13, 29, 30, 31, 32, 70, 71, 72, 73, 74, 75, 76] (by decide +kernel) (by decide +kernel)
set_option maxRecDepth 20000 in
theorem gX4_many_X3_reached : GoodIn wsX4_many (wsV RX4 101 RX3 yX3_reached wsX3_reached) := goodIn_app (goodIn_of _ (by decide +kernel)) ggX4_many_X3_reached
set_option maxRecDepth 20000 in
theorem ggX4_many_J6_bitCount_0f7a4 : GoodIn wsX4_many wsJ6_bitCount_0f7a4 := goodIn_r _ [36, 37, 38, 39] (by decide +kernel) (by decide +kernel)
set_option maxRecDepth 20000 in
theorem gX4_many_J6_bitCount_0f7a4 : GoodIn wsX4_many (va_wsS RX4 253 yJ6_bitCount_0f7a4 wsJ6_bitCount_0f7a4) := goodIn_app (goodIn_of _ (by decide +kernel)) ggX4_many_J6_bitCount_0f7a4
set_option maxRecDepth 20000 in
theorem ggX4_many_X3_notLawful : GoodIn wsX4_many wsX3_notLawful := goodIn_r _ [43, 8, 44, 45, 46, 6, 47, 48, 49, 50, 51, 52, 53, 54, 55, 56, 18, 19, 20, 21, 22, 23, 24, 25, 26, 27, 28, 13, 29, 30, 31, 32, 70, 71, 72, 73, 74, 75, 76] (by decide +kernel) (by decide +kernel)
set_option maxRecDepth 20000 in
theorem gX4_many_X3_notLawful : GoodIn wsX4_many (wsV RX4 169 RX3 yX3_notLawful wsX3_notLawful) := goodIn_app (goodIn_of _ (by decide +kernel)) ggX4_many_X3_notLawful
set_option maxRecDepth 20000 in
theorem ggX4_many_X0_size : GoodIn wsX4_many wsX0_size := goodIn_r _ [61, 62, 77, 78, 79, 80] (by decide +kernel) (by decide +kernel)
set_option maxRecDepth 20000 in
theorem gX4_many_X0_size : GoodIn wsX4_many (wsV RX4 74 RX0 yX0_size wsX0_size) := goodIn_app (goodIn_of _ (by decide +kernel)) ggX4_many_X0_size
theorem dX4_many_0 : decode cX4_many 0 = .ok (.iload_n 1, 1) := by decide +kernel
theorem dX4_many_1 : decode cX4_many 1 = .ok (.tableswitch 81 0 4 #[35, 43, 51, 62, 73], 35) := by decide +kernel
theorem dX4_many_36 : decode cX4_many 36 = .ok (.aload_n 0, 1) := by decide +kernel
theorem dX4_many_37 : decode cX4_many 37 = .ok (.getfield 12, 3) := by decide +kernel
theorem dX4_many_40 : decode cX4_many 40 = .ok (.invokevirtual 82, 3) := by decide +kernel
theorem dX4_many_43 : decode cX4_many 43 = .ok (.ireturn, 1) := by decide +kernel
theorem dX4_many_44 : decode cX4_many 44 = .ok (.aload_n 0, 1) := by decide +kernel
theorem dX4_many_45 : decode cX4_many 45 = .ok (.getfield 12, 3) := by decide +kernel
theorem dX4_many_48 : decode cX4_many 48 = .ok (.invokevirtual 166, 3) := by decide +kernel
theorem dX4_many_51 : decode cX4_many 51 = .ok (.ireturn, 1) := by decide +kernel
theorem dX4_many_52 : decode cX4_many 52 = .ok (.aload_n 0, 1) := by decide +kernel
theorem dX4_many_53 : decode cX4_many 53 = .ok (.getfield 12, 3) := by decide +kernel
theorem dX4_many_56 : decode cX4_many 56 = .ok (.invokevirtual 101, 3) := by decide +kernel
theorem dX4_many_59 : decode cX4_many 59 = .ok (.invokestatic 253, 3) := by decide +kernel
theorem dX4_many_62 : decode cX4_many 62 = .ok (.ireturn, 1) := by decide +kernel
theorem dX4_many_63 : decode cX4_many 63 = .ok (.aload_n 0, 1) := by decide +kernel
theorem dX4_many_64 : decode cX4_many 64 = .ok (.getfield 12, 3) := by decide +kernel
theorem dX4_many_67 : decode cX4_many 67 = .ok (.invokevirtual 169, 3) := by decide +kernel
theorem dX4_many_70 : decode cX4_many 70 = .ok (.invokestatic 253, 3) := by decide +kernel
theorem dX4_many_73 : decode cX4_many 73 = .ok (.ireturn, 1) := by decide +kernel
theorem dX4_many_74 : decode cX4_many 74 = .ok (.aload_n 0, 1) := by decide +kernel
theorem dX4_many_75 : decode cX4_many 75 = .ok (.getfield 24, 3) := by decide +kernel
theorem dX4_many_78 : decode cX4_many 78 = .ok (.invokevirtual 74, 3) := by decide +kernel
theorem dX4_many_81 : decode cX4_many 81 = .ok (.ireturn, 1) := by decide +kernel
theorem dX4_many_82 : decode cX4_many 82 = .ok (.bipush (-2), 2) := by decide +kernel
theorem dX4_many_84 : decode cX4_many 84 = .ok (.ireturn, 1) := by decide +kernel
theorem dX4_failed_0 : decode cX4_failed 0 = .ok (.aload_n 0, 1) := by decide +kernel
theorem dX4_failed_1 : decode cX4_failed 1 = .ok (.iload_n 1, 1) := by decide +kernel
theorem dX4_failed_2 : decode cX4_failed 2 = .ok (.putfield 48, 3) := by decide +kernel
theorem dX4_failed_5 : decode cX4_failed 5 = .ok (.bipush (-10), 2) := by decide +kernel
theorem dX4_failed_7 : decode cX4_failed 7 = .ok (.iload_n 1, 1) := by decide +kernel
theorem dX4_failed_8 : decode cX4_failed 8 = .ok (.isub, 1) := by decide +kernel
theorem dX4_failed_9 : decode cX4_failed 9 = .ok (.ireturn, 1) := by decide +kernel
set_option maxRecDepth 20000 in
theorem ggX4_isSheet_X4_isBetween : GoodIn wsX4_isSheet wsX4_isBetween := goodIn_r _ [4] (by decide +kernel) (by decide +kernel)
set_option maxRecDepth 20000 in
theorem gX4_isSheet_X4_isBetween : GoodIn wsX4_isSheet (va_wsS RX4 143 yX4_isBetween wsX4_isBetween) := goodIn_app (goodIn_of _ (by decide +kernel)) ggX4_isSheet_X4_isBetween
theorem dX4_isSheet_0 : decode cX4_isSheet 0 = .ok (.iload_n 0, 1) := by decide +kernel
theorem dX4_isSheet_1 : decode cX4_isSheet 1 = .ok (.iconst 0, 1) := by decide +kernel
theorem dX4_isSheet_2 : decode cX4_isSheet 2 = .ok (.iconst 3, 1) := by decide +kernel
theorem dX4_isSheet_3 : decode cX4_isSheet 3 = .ok (.invokestatic 143, 3) := by decide +kernel
theorem dX4_isSheet_6 : decode cX4_isSheet 6 = .ok (.ireturn, 1) := by decide +kernel
set_option maxRecDepth 20000 in
theorem ggX4_isLane_X4_isBetween : GoodIn wsX4_isLane wsX4_isBetween := goodIn_r _ [4] (by decide +kernel) (by decide +kernel)
set_option maxRecDepth 20000 in
theorem gX4_isLane_X4_isBetween : GoodIn wsX4_isLane (va_wsS RX4 143 yX4_isBetween wsX4_isBetween) := goodIn_app (goodIn_of _ (by decide +kernel)) ggX4_isLane_X4_isBetween
theorem dX4_isLane_0 : decode cX4_isLane 0 = .ok (.iload_n 0, 1) := by decide +kernel
theorem dX4_isLane_1 : decode cX4_isLane 1 = .ok (.iconst 0, 1) := by decide +kernel
theorem dX4_isLane_2 : decode cX4_isLane 2 = .ok (.iconst 2, 1) := by decide +kernel
theorem dX4_isLane_3 : decode cX4_isLane 3 = .ok (.invokestatic 143, 3) := by decide +kernel
theorem dX4_isLane_6 : decode cX4_isLane 6 = .ok (.ireturn, 1) := by decide +kernel
theorem dX4_isBetween_0 : decode cX4_isBetween 0 = .ok (.iload_n 0, 1) := by decide +kernel
theorem dX4_isBetween_1 : decode cX4_isBetween 1 = .ok (.iload_n 1, 1) := by decide +kernel
theorem dX4_isBetween_2 : decode cX4_isBetween 2 = .ok (.if_icmp .lt 12, 3) := by decide +kernel
theorem dX4_isBetween_5 : decode cX4_isBetween 5 = .ok (.iload_n 0, 1) := by decide +kernel
theorem dX4_isBetween_6 : decode cX4_isBetween 6 = .ok (.iload_n 2, 1) := by decide +kernel
theorem dX4_isBetween_7 : decode cX4_isBetween 7 = .ok (.if_icmp .gt 7, 3) := by decide +kernel
theorem dX4_isBetween_10 : decode cX4_isBetween 10 = .ok (.iconst 1, 1) := by decide +kernel
theorem dX4_isBetween_11 : decode cX4_isBetween 11 = .ok (.goto 4, 3) := by decide +kernel
theorem dX4_isBetween_14 : decode cX4_isBetween 14 = .ok (.iconst 0, 1) := by decide +kernel
theorem dX4_isBetween_15 : decode cX4_isBetween 15 = .ok (.ireturn, 1) := by decide +kernel
theorem dX4_oneIf_0 : decode cX4_oneIf 0 = .ok (.iload_n 0, 1) := by decide +kernel
theorem dX4_oneIf_1 : decode cX4_oneIf 1 = .ok (.ifCond .eq 7, 3) := by decide +kernel
theorem dX4_oneIf_4 : decode cX4_oneIf 4 = .ok (.iconst 1, 1) := by decide +kernel
theorem dX4_oneIf_5 : decode cX4_oneIf 5 = .ok (.goto 4, 3) := by decide +kernel
theorem dX4_oneIf_8 : decode cX4_oneIf 8 = .ok (.iconst 0, 1) := by decide +kernel
theorem dX4_oneIf_9 : decode cX4_oneIf 9 = .ok (.ireturn, 1) := by decide +kernel
theorem dX4_bit_0 : decode cX4_bit 0 = .ok (.iconst 1, 1) := by decide +kernel
theorem dX4_bit_1 : decode cX4_bit 1 = .ok (.iload_n 0, 1) := by decide +kernel
theorem dX4_bit_2 : decode cX4_bit 2 = .ok (.ishl, 1) := by decide +kernel
theorem dX4_bit_3 : decode cX4_bit 3 = .ok (.ireturn, 1) := by decide +kernel
theorem dX4_holds_0 : decode cX4_holds 0 = .ok (.iload_n 0, 1) := by decide +kernel
theorem dX4_holds_1 : decode cX4_holds 1 = .ok (.iconst 1, 1) := by decide +kernel
theorem dX4_holds_2 : decode cX4_holds 2 = .ok (.iload_n 1, 1) := by decide +kernel
theorem dX4_holds_3 : decode cX4_holds 3 = .ok (.ishl, 1) := by decide +kernel
theorem dX4_holds_4 : decode cX4_holds 4 = .ok (.iand, 1) := by decide +kernel
theorem dX4_holds_5 : decode cX4_holds 5 = .ok (.ifCond .eq 7, 3) := by decide +kernel
theorem dX4_holds_8 : decode cX4_holds 8 = .ok (.iconst 1, 1) := by decide +kernel
theorem dX4_holds_9 : decode cX4_holds 9 = .ok (.goto 4, 3) := by decide +kernel
theorem dX4_holds_12 : decode cX4_holds 12 = .ok (.iconst 0, 1) := by decide +kernel
theorem dX4_holds_13 : decode cX4_holds 13 = .ok (.ireturn, 1) := by decide +kernel
theorem dJ6_bitCount_0f7a4_0 : decode cJ6_bitCount_0f7a4 0 = .ok (.iload_n 0, 1) := by decide +kernel
theorem dJ6_bitCount_0f7a4_1 : decode cJ6_bitCount_0f7a4 1 = .ok (.iload_n 0, 1) := by decide +kernel
theorem dJ6_bitCount_0f7a4_2 : decode cJ6_bitCount_0f7a4 2 = .ok (.iconst 1, 1) := by decide +kernel
theorem dJ6_bitCount_0f7a4_3 : decode cJ6_bitCount_0f7a4 3 = .ok (.iushr, 1) := by decide +kernel
theorem dJ6_bitCount_0f7a4_4 : decode cJ6_bitCount_0f7a4 4 = .ok (.ldc_w 265, 3) := by decide +kernel
theorem dJ6_bitCount_0f7a4_7 : decode cJ6_bitCount_0f7a4 7 = .ok (.iand, 1) := by decide +kernel
theorem dJ6_bitCount_0f7a4_8 : decode cJ6_bitCount_0f7a4 8 = .ok (.isub, 1) := by decide +kernel
theorem dJ6_bitCount_0f7a4_9 : decode cJ6_bitCount_0f7a4 9 = .ok (.istore_n 0, 1) := by decide +kernel
theorem dJ6_bitCount_0f7a4_10 : decode cJ6_bitCount_0f7a4 10 = .ok (.iload_n 0, 1) := by decide +kernel
theorem dJ6_bitCount_0f7a4_11 : decode cJ6_bitCount_0f7a4 11 = .ok (.ldc_w 266, 3) := by decide +kernel
theorem dJ6_bitCount_0f7a4_14 : decode cJ6_bitCount_0f7a4 14 = .ok (.iand, 1) := by decide +kernel
theorem dJ6_bitCount_0f7a4_15 : decode cJ6_bitCount_0f7a4 15 = .ok (.iload_n 0, 1) := by decide +kernel
theorem dJ6_bitCount_0f7a4_16 : decode cJ6_bitCount_0f7a4 16 = .ok (.iconst 2, 1) := by decide +kernel
theorem dJ6_bitCount_0f7a4_17 : decode cJ6_bitCount_0f7a4 17 = .ok (.iushr, 1) := by decide +kernel
theorem dJ6_bitCount_0f7a4_18 : decode cJ6_bitCount_0f7a4 18 = .ok (.ldc_w 266, 3) := by decide +kernel
theorem dJ6_bitCount_0f7a4_21 : decode cJ6_bitCount_0f7a4 21 = .ok (.iand, 1) := by decide +kernel
theorem dJ6_bitCount_0f7a4_22 : decode cJ6_bitCount_0f7a4 22 = .ok (.iadd, 1) := by decide +kernel
theorem dJ6_bitCount_0f7a4_23 : decode cJ6_bitCount_0f7a4 23 = .ok (.istore_n 0, 1) := by decide +kernel
theorem dJ6_bitCount_0f7a4_24 : decode cJ6_bitCount_0f7a4 24 = .ok (.iload_n 0, 1) := by decide +kernel
theorem dJ6_bitCount_0f7a4_25 : decode cJ6_bitCount_0f7a4 25 = .ok (.iload_n 0, 1) := by decide +kernel
theorem dJ6_bitCount_0f7a4_26 : decode cJ6_bitCount_0f7a4 26 = .ok (.iconst 4, 1) := by decide +kernel
theorem dJ6_bitCount_0f7a4_27 : decode cJ6_bitCount_0f7a4 27 = .ok (.iushr, 1) := by decide +kernel
theorem dJ6_bitCount_0f7a4_28 : decode cJ6_bitCount_0f7a4 28 = .ok (.iadd, 1) := by decide +kernel
theorem dJ6_bitCount_0f7a4_29 : decode cJ6_bitCount_0f7a4 29 = .ok (.ldc_w 267, 3) := by decide +kernel
theorem dJ6_bitCount_0f7a4_32 : decode cJ6_bitCount_0f7a4 32 = .ok (.iand, 1) := by decide +kernel
theorem dJ6_bitCount_0f7a4_33 : decode cJ6_bitCount_0f7a4 33 = .ok (.istore_n 0, 1) := by decide +kernel
theorem dJ6_bitCount_0f7a4_34 : decode cJ6_bitCount_0f7a4 34 = .ok (.iload_n 0, 1) := by decide +kernel
theorem dJ6_bitCount_0f7a4_35 : decode cJ6_bitCount_0f7a4 35 = .ok (.iload_n 0, 1) := by decide +kernel
theorem dJ6_bitCount_0f7a4_36 : decode cJ6_bitCount_0f7a4 36 = .ok (.bipush 8, 2) := by decide +kernel
theorem dJ6_bitCount_0f7a4_38 : decode cJ6_bitCount_0f7a4 38 = .ok (.iushr, 1) := by decide +kernel
theorem dJ6_bitCount_0f7a4_39 : decode cJ6_bitCount_0f7a4 39 = .ok (.iadd, 1) := by decide +kernel
theorem dJ6_bitCount_0f7a4_40 : decode cJ6_bitCount_0f7a4 40 = .ok (.istore_n 0, 1) := by decide +kernel
theorem dJ6_bitCount_0f7a4_41 : decode cJ6_bitCount_0f7a4 41 = .ok (.iload_n 0, 1) := by decide +kernel
theorem dJ6_bitCount_0f7a4_42 : decode cJ6_bitCount_0f7a4 42 = .ok (.iload_n 0, 1) := by decide +kernel
theorem dJ6_bitCount_0f7a4_43 : decode cJ6_bitCount_0f7a4 43 = .ok (.bipush 16, 2) := by decide +kernel
theorem dJ6_bitCount_0f7a4_45 : decode cJ6_bitCount_0f7a4 45 = .ok (.iushr, 1) := by decide +kernel
theorem dJ6_bitCount_0f7a4_46 : decode cJ6_bitCount_0f7a4 46 = .ok (.iadd, 1) := by decide +kernel
theorem dJ6_bitCount_0f7a4_47 : decode cJ6_bitCount_0f7a4 47 = .ok (.istore_n 0, 1) := by decide +kernel
theorem dJ6_bitCount_0f7a4_48 : decode cJ6_bitCount_0f7a4 48 = .ok (.iload_n 0, 1) := by decide +kernel
theorem dJ6_bitCount_0f7a4_49 : decode cJ6_bitCount_0f7a4 49 = .ok (.bipush 63, 2) := by decide +kernel
theorem dJ6_bitCount_0f7a4_51 : decode cJ6_bitCount_0f7a4 51 = .ok (.iand, 1) := by decide +kernel
theorem dJ6_bitCount_0f7a4_52 : decode cJ6_bitCount_0f7a4 52 = .ok (.ireturn, 1) := by decide +kernel
theorem dJ9_max_7cf53_0 : decode cJ9_max_7cf53 0 = .ok (.iload_n 0, 1) := by decide +kernel
theorem dJ9_max_7cf53_1 : decode cJ9_max_7cf53 1 = .ok (.iload_n 1, 1) := by decide +kernel
theorem dJ9_max_7cf53_2 : decode cJ9_max_7cf53 2 = .ok (.if_icmp .lt 7, 3) := by decide +kernel
theorem dJ9_max_7cf53_5 : decode cJ9_max_7cf53 5 = .ok (.iload_n 0, 1) := by decide +kernel
theorem dJ9_max_7cf53_6 : decode cJ9_max_7cf53 6 = .ok (.goto 4, 3) := by decide +kernel
theorem dJ9_max_7cf53_9 : decode cJ9_max_7cf53 9 = .ok (.iload_n 1, 1) := by decide +kernel
theorem dJ9_max_7cf53_10 : decode cJ9_max_7cf53 10 = .ok (.ireturn, 1) := by decide +kernel

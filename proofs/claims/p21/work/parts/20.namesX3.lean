set_option maxRecDepth 20000 in
theorem ggX3_init_X2_init : GoodIn wsX3_init wsX2_init := goodIn_r _ [10, 11, 2, 3, 12, 13, 14, 15, 16, 17, 18, 19, 20, 21, 22, 23, 24, 25, 26, 27] (by decide +kernel) (by decide +kernel)
set_option maxRecDepth 20000 in
theorem gX3_init_X2_init_n9 : GoodIn wsX3_init (wsX2_init) := ggX3_init_X2_init
theorem dX3_init_0 : decode cX3_init 0 = .ok (.aload_n 0, 1) := by decide +kernel
theorem dX3_init_1 : decode cX3_init 1 = .ok (.invokespecial 1, 3) := by decide +kernel
theorem dX3_init_4 : decode cX3_init 4 = .ok (.aload_n 0, 1) := by decide +kernel
theorem dX3_init_5 : decode cX3_init 5 = .ok (.new 7, 3) := by decide +kernel
theorem dX3_init_8 : decode cX3_init 8 = .ok (.dup, 1) := by decide +kernel
theorem dX3_init_9 : decode cX3_init 9 = .ok (.invokespecial 9, 3) := by decide +kernel
theorem dX3_init_12 : decode cX3_init 12 = .ok (.putfield 10, 3) := by decide +kernel
theorem dX3_init_15 : decode cX3_init 15 = .ok (.aload_n 0, 1) := by decide +kernel
theorem dX3_init_16 : decode cX3_init 16 = .ok (.new 7, 3) := by decide +kernel
theorem dX3_init_19 : decode cX3_init 19 = .ok (.dup, 1) := by decide +kernel
theorem dX3_init_20 : decode cX3_init 20 = .ok (.invokespecial 9, 3) := by decide +kernel
theorem dX3_init_23 : decode cX3_init 23 = .ok (.putfield 16, 3) := by decide +kernel
theorem dX3_init_26 : decode cX3_init 26 = .ok (.return_, 1) := by decide +kernel
set_option maxRecDepth 20000 in
theorem ggX3_setPeople_X3_isWithin : GoodIn wsX3_setPeople wsX3_isWithin := goodIn_r _ [8] (by decide +kernel) (by decide +kernel)
set_option maxRecDepth 20000 in
theorem gX3_setPeople_X3_isWithin : GoodIn wsX3_setPeople (va_wsS RX3 19 yX3_isWithin wsX3_isWithin) := goodIn_app (goodIn_of _ (by decide +kernel)) ggX3_setPeople_X3_isWithin
theorem dX3_setPeople_0 : decode cX3_setPeople 0 = .ok (.iload_n 1, 1) := by decide +kernel
theorem dX3_setPeople_1 : decode cX3_setPeople 1 = .ok (.iconst 0, 1) := by decide +kernel
theorem dX3_setPeople_2 : decode cX3_setPeople 2 = .ok (.sipush 500, 3) := by decide +kernel
theorem dX3_setPeople_5 : decode cX3_setPeople 5 = .ok (.invokestatic 19, 3) := by decide +kernel
theorem dX3_setPeople_8 : decode cX3_setPeople 8 = .ok (.ifCond .ne 13, 3) := by decide +kernel
theorem dX3_setPeople_11 : decode cX3_setPeople 11 = .ok (.new 23, 3) := by decide +kernel
theorem dX3_setPeople_14 : decode cX3_setPeople 14 = .ok (.dup, 1) := by decide +kernel
theorem dX3_setPeople_15 : decode cX3_setPeople 15 = .ok (.ldc 25, 2) := by decide +kernel
theorem dX3_setPeople_17 : decode cX3_setPeople 17 = .ok (.invokespecial 27, 3) := by decide +kernel
theorem dX3_setPeople_20 : decode cX3_setPeople 20 = .ok (.athrow, 1) := by decide +kernel
theorem dX3_setPeople_21 : decode cX3_setPeople 21 = .ok (.aload_n 0, 1) := by decide +kernel
theorem dX3_setPeople_22 : decode cX3_setPeople 22 = .ok (.getfield 10, 3) := by decide +kernel
theorem dX3_setPeople_25 : decode cX3_setPeople 25 = .ok (.getfield 30, 3) := by decide +kernel
theorem dX3_setPeople_28 : decode cX3_setPeople 28 = .ok (.istore_n 2, 1) := by decide +kernel
theorem dX3_setPeople_29 : decode cX3_setPeople 29 = .ok (.aload_n 0, 1) := by decide +kernel
theorem dX3_setPeople_30 : decode cX3_setPeople 30 = .ok (.getfield 10, 3) := by decide +kernel
theorem dX3_setPeople_33 : decode cX3_setPeople 33 = .ok (.iload_n 1, 1) := by decide +kernel
theorem dX3_setPeople_34 : decode cX3_setPeople 34 = .ok (.putfield 30, 3) := by decide +kernel
theorem dX3_setPeople_37 : decode cX3_setPeople 37 = .ok (.iload_n 2, 1) := by decide +kernel
theorem dX3_setPeople_38 : decode cX3_setPeople 38 = .ok (.ireturn, 1) := by decide +kernel
set_option maxRecDepth 20000 in
theorem ggX3_setGate_X3_isWithin : GoodIn wsX3_setGate wsX3_isWithin := goodIn_r _ [9] (by decide +kernel) (by decide +kernel)
set_option maxRecDepth 20000 in
theorem gX3_setGate_X3_isWithin : GoodIn wsX3_setGate (va_wsS RX3 19 yX3_isWithin wsX3_isWithin) := goodIn_app (goodIn_of _ (by decide +kernel)) ggX3_setGate_X3_isWithin
set_option maxRecDepth 20000 in
theorem ggX3_setGate_X2_changeGate : GoodIn wsX3_setGate wsX2_changeGate := goodIn_r _ [14, 15, 16, 17, 18, 13, 19, 22, 23, 24, 25, 26, 27, 28, 29, 30] (by decide +kernel) (by decide +kernel)
set_option maxRecDepth 20000 in
theorem gX3_setGate_X2_changeGate : GoodIn wsX3_setGate (wsV RX3 41 RX2 yX2_changeGate wsX2_changeGate) := goodIn_app (goodIn_of _ (by decide +kernel)) ggX3_setGate_X2_changeGate
theorem dX3_setGate_0 : decode cX3_setGate 0 = .ok (.iload_n 1, 1) := by decide +kernel
theorem dX3_setGate_1 : decode cX3_setGate 1 = .ok (.iconst 0, 1) := by decide +kernel
theorem dX3_setGate_2 : decode cX3_setGate 2 = .ok (.bipush 23, 2) := by decide +kernel
theorem dX3_setGate_4 : decode cX3_setGate 4 = .ok (.invokestatic 19, 3) := by decide +kernel
theorem dX3_setGate_7 : decode cX3_setGate 7 = .ok (.ifCond .ne 13, 3) := by decide +kernel
theorem dX3_setGate_10 : decode cX3_setGate 10 = .ok (.new 34, 3) := by decide +kernel
theorem dX3_setGate_13 : decode cX3_setGate 13 = .ok (.dup, 1) := by decide +kernel
theorem dX3_setGate_14 : decode cX3_setGate 14 = .ok (.ldc 36, 2) := by decide +kernel
theorem dX3_setGate_16 : decode cX3_setGate 16 = .ok (.invokespecial 38, 3) := by decide +kernel
theorem dX3_setGate_19 : decode cX3_setGate 19 = .ok (.athrow, 1) := by decide +kernel
theorem dX3_setGate_20 : decode cX3_setGate 20 = .ok (.iload_n 2, 1) := by decide +kernel
theorem dX3_setGate_21 : decode cX3_setGate 21 = .ok (.iconst 0, 1) := by decide +kernel
theorem dX3_setGate_22 : decode cX3_setGate 22 = .ok (.bipush 99, 2) := by decide +kernel
theorem dX3_setGate_24 : decode cX3_setGate 24 = .ok (.invokestatic 19, 3) := by decide +kernel
theorem dX3_setGate_27 : decode cX3_setGate 27 = .ok (.ifCond .ne 13, 3) := by decide +kernel
theorem dX3_setGate_30 : decode cX3_setGate 30 = .ok (.new 23, 3) := by decide +kernel
theorem dX3_setGate_33 : decode cX3_setGate 33 = .ok (.dup, 1) := by decide +kernel
theorem dX3_setGate_34 : decode cX3_setGate 34 = .ok (.ldc 39, 2) := by decide +kernel
theorem dX3_setGate_36 : decode cX3_setGate 36 = .ok (.invokespecial 27, 3) := by decide +kernel
theorem dX3_setGate_39 : decode cX3_setGate 39 = .ok (.athrow, 1) := by decide +kernel
theorem dX3_setGate_40 : decode cX3_setGate 40 = .ok (.aload_n 0, 1) := by decide +kernel
theorem dX3_setGate_41 : decode cX3_setGate 41 = .ok (.getfield 10, 3) := by decide +kernel
theorem dX3_setGate_44 : decode cX3_setGate 44 = .ok (.iload_n 1, 1) := by decide +kernel
theorem dX3_setGate_45 : decode cX3_setGate 45 = .ok (.iload_n 2, 1) := by decide +kernel
theorem dX3_setGate_46 : decode cX3_setGate 46 = .ok (.invokevirtual 41, 3) := by decide +kernel
theorem dX3_setGate_49 : decode cX3_setGate 49 = .ok (.ireturn, 1) := by decide +kernel
set_option maxRecDepth 20000 in
theorem ggX3_open_X3_isWithin : GoodIn wsX3_open wsX3_isWithin := goodIn_r _ [9] (by decide +kernel) (by decide +kernel)
set_option maxRecDepth 20000 in
theorem gX3_open_X3_isWithin : GoodIn wsX3_open (va_wsS RX3 19 yX3_isWithin wsX3_isWithin) := goodIn_app (goodIn_of _ (by decide +kernel)) ggX3_open_X3_isWithin
set_option maxRecDepth 20000 in
theorem ggX3_open_X2_addStore : GoodIn wsX3_open wsX2_addStore := goodIn_r _ [14, 15, 16, 17, 18, 19, 20, 21, 22, 23, 24, 25, 26, 29, 30, 31, 32, 33, 34, 35, 36, 37, 38, 39, 40] (by decide +kernel) (by decide +kernel)
set_option maxRecDepth 20000 in
theorem gX3_open_X2_addStore : GoodIn wsX3_open (wsV RX3 49 RX2 yX2_addStore wsX2_addStore) := goodIn_app (goodIn_of _ (by decide +kernel)) ggX3_open_X2_addStore
theorem dX3_open_0 : decode cX3_open 0 = .ok (.iload_n 1, 1) := by decide +kernel
theorem dX3_open_1 : decode cX3_open 1 = .ok (.iconst 0, 1) := by decide +kernel
theorem dX3_open_2 : decode cX3_open 2 = .ok (.sipush 900, 3) := by decide +kernel
theorem dX3_open_5 : decode cX3_open 5 = .ok (.invokestatic 19, 3) := by decide +kernel
theorem dX3_open_8 : decode cX3_open 8 = .ok (.ifCond .ne 13, 3) := by decide +kernel
theorem dX3_open_11 : decode cX3_open 11 = .ok (.new 23, 3) := by decide +kernel
theorem dX3_open_14 : decode cX3_open 14 = .ok (.dup, 1) := by decide +kernel
theorem dX3_open_15 : decode cX3_open 15 = .ok (.ldc 45, 2) := by decide +kernel
theorem dX3_open_17 : decode cX3_open 17 = .ok (.invokespecial 27, 3) := by decide +kernel
theorem dX3_open_20 : decode cX3_open 20 = .ok (.athrow, 1) := by decide +kernel
theorem dX3_open_21 : decode cX3_open 21 = .ok (.iload_n 2, 1) := by decide +kernel
theorem dX3_open_22 : decode cX3_open 22 = .ok (.iconst 0, 1) := by decide +kernel
theorem dX3_open_23 : decode cX3_open 23 = .ok (.bipush 50, 2) := by decide +kernel
theorem dX3_open_25 : decode cX3_open 25 = .ok (.invokestatic 19, 3) := by decide +kernel
theorem dX3_open_28 : decode cX3_open 28 = .ok (.ifCond .ne 13, 3) := by decide +kernel
theorem dX3_open_31 : decode cX3_open 31 = .ok (.new 23, 3) := by decide +kernel
theorem dX3_open_34 : decode cX3_open 34 = .ok (.dup, 1) := by decide +kernel
theorem dX3_open_35 : decode cX3_open 35 = .ok (.ldc 47, 2) := by decide +kernel
theorem dX3_open_37 : decode cX3_open 37 = .ok (.invokespecial 27, 3) := by decide +kernel
theorem dX3_open_40 : decode cX3_open 40 = .ok (.athrow, 1) := by decide +kernel
theorem dX3_open_41 : decode cX3_open 41 = .ok (.aload_n 0, 1) := by decide +kernel
theorem dX3_open_42 : decode cX3_open 42 = .ok (.getfield 10, 3) := by decide +kernel
theorem dX3_open_45 : decode cX3_open 45 = .ok (.iload_n 1, 1) := by decide +kernel
theorem dX3_open_46 : decode cX3_open 46 = .ok (.iload_n 2, 1) := by decide +kernel
theorem dX3_open_47 : decode cX3_open 47 = .ok (.invokevirtual 49, 3) := by decide +kernel
theorem dX3_open_50 : decode cX3_open 50 = .ok (.istore_n 3, 1) := by decide +kernel
theorem dX3_open_51 : decode cX3_open 51 = .ok (.iload_n 3, 1) := by decide +kernel
theorem dX3_open_52 : decode cX3_open 52 = .ok (.ifCond .ge 13, 3) := by decide +kernel
theorem dX3_open_55 : decode cX3_open 55 = .ok (.new 52, 3) := by decide +kernel
theorem dX3_open_58 : decode cX3_open 58 = .ok (.dup, 1) := by decide +kernel
theorem dX3_open_59 : decode cX3_open 59 = .ok (.ldc 54, 2) := by decide +kernel
theorem dX3_open_61 : decode cX3_open 61 = .ok (.invokespecial 56, 3) := by decide +kernel
theorem dX3_open_64 : decode cX3_open 64 = .ok (.athrow, 1) := by decide +kernel
theorem dX3_open_65 : decode cX3_open 65 = .ok (.iload_n 3, 1) := by decide +kernel
theorem dX3_open_66 : decode cX3_open 66 = .ok (.ireturn, 1) := by decide +kernel
set_option maxRecDepth 20000 in
theorem ggX3_smoke_X2_storeAt : GoodIn wsX3_smoke wsX2_storeAt := goodIn_r _ [8, 9, 19, 20, 21, 22, 23, 24, 25, 26, 27] (by decide +kernel) (by decide +kernel)
set_option maxRecDepth 20000 in
theorem gX3_smoke_X2_storeAt : GoodIn wsX3_smoke (wsV RX3 57 RX2 yX2_storeAt wsX2_storeAt) := goodIn_app (goodIn_of _ (by decide +kernel)) ggX3_smoke_X2_storeAt
set_option maxRecDepth 20000 in
theorem ggX3_smoke_X1_smokeOut : GoodIn wsX3_smoke wsX1_smokeOut := goodIn_r _ [14, 15, 16, 28, 29, 30] (by decide +kernel) (by decide +kernel)
set_option maxRecDepth 20000 in
theorem gX3_smoke_X1_smokeOut : GoodIn wsX3_smoke (wsV RX3 63 RX1 yX1_smokeOut wsX1_smokeOut) := goodIn_app (goodIn_of _ (by decide +kernel)) ggX3_smoke_X1_smokeOut
theorem dX3_smoke_0 : decode cX3_smoke 0 = .ok (.aload_n 0, 1) := by decide +kernel
theorem dX3_smoke_1 : decode cX3_smoke 1 = .ok (.getfield 10, 3) := by decide +kernel
theorem dX3_smoke_4 : decode cX3_smoke 4 = .ok (.iload_n 1, 1) := by decide +kernel
theorem dX3_smoke_5 : decode cX3_smoke 5 = .ok (.invokevirtual 57, 3) := by decide +kernel
theorem dX3_smoke_8 : decode cX3_smoke 8 = .ok (.astore_n 2, 1) := by decide +kernel
theorem dX3_smoke_9 : decode cX3_smoke 9 = .ok (.aload_n 2, 1) := by decide +kernel
theorem dX3_smoke_10 : decode cX3_smoke 10 = .ok (.ifnonnull 13, 3) := by decide +kernel
theorem dX3_smoke_13 : decode cX3_smoke 13 = .ok (.new 34, 3) := by decide +kernel
theorem dX3_smoke_16 : decode cX3_smoke 16 = .ok (.dup, 1) := by decide +kernel
theorem dX3_smoke_17 : decode cX3_smoke 17 = .ok (.ldc 61, 2) := by decide +kernel
theorem dX3_smoke_19 : decode cX3_smoke 19 = .ok (.invokespecial 38, 3) := by decide +kernel
theorem dX3_smoke_22 : decode cX3_smoke 22 = .ok (.athrow, 1) := by decide +kernel
theorem dX3_smoke_23 : decode cX3_smoke 23 = .ok (.aload_n 2, 1) := by decide +kernel
theorem dX3_smoke_24 : decode cX3_smoke 24 = .ok (.invokevirtual 63, 3) := by decide +kernel
theorem dX3_smoke_27 : decode cX3_smoke 27 = .ok (.ireturn, 1) := by decide +kernel
set_option maxRecDepth 20000 in
theorem ggX3_swear_X2_storeAt : GoodIn wsX3_swear wsX2_storeAt := goodIn_r _ [12, 13, 43, 44, 45, 46, 47, 48, 49, 50, 51] (by decide +kernel) (by decide +kernel)
set_option maxRecDepth 20000 in
theorem gX3_swear_X2_storeAt : GoodIn wsX3_swear (wsV RX3 57 RX2 yX2_storeAt wsX2_storeAt) := goodIn_app (goodIn_of _ (by decide +kernel)) ggX3_swear_X2_storeAt
set_option maxRecDepth 20000 in
theorem ggX3_swear_X3_isWithin : GoodIn wsX3_swear wsX3_isWithin := goodIn_r _ [17] (by decide +kernel) (by decide +kernel)
set_option maxRecDepth 20000 in
theorem gX3_swear_X3_isWithin : GoodIn wsX3_swear (va_wsS RX3 19 yX3_isWithin wsX3_isWithin) := goodIn_app (goodIn_of _ (by decide +kernel)) ggX3_swear_X3_isWithin
set_option maxRecDepth 20000 in
theorem ggX3_swear_X2_bakerWithMark : GoodIn wsX3_swear wsX2_bakerWithMark := goodIn_r _ [21, 22, 23, 43, 44, 45, 46, 47, 48, 49, 50, 51, 52, 53, 54, 55, 56, 57, 58, 59] (by decide +kernel) (by decide +kernel)
set_option maxRecDepth 20000 in
theorem gX3_swear_X2_bakerWithMark : GoodIn wsX3_swear (wsV RX3 75 RX2 yX2_bakerWithMark wsX2_bakerWithMark) := goodIn_app (goodIn_of _ (by decide +kernel)) ggX3_swear_X2_bakerWithMark
set_option maxRecDepth 20000 in
theorem ggX3_swear_X2_addBaker : GoodIn wsX3_swear wsX2_addBaker := goodIn_r _ [27, 22, 28, 29, 30, 31, 32, 33, 34, 35, 36, 37, 38, 39, 40, 43, 44, 45, 46, 47, 48, 49, 50, 51, 52, 53, 54, 55, 56, 57, 58, 59] (by decide +kernel) (by decide +kernel)
set_option maxRecDepth 20000 in
theorem gX3_swear_X2_addBaker : GoodIn wsX3_swear (wsV RX3 81 RX2 yX2_addBaker wsX2_addBaker) := goodIn_app (goodIn_of _ (by decide +kernel)) ggX3_swear_X2_addBaker
theorem dX3_swear_0 : decode cX3_swear 0 = .ok (.aload_n 0, 1) := by decide +kernel
theorem dX3_swear_1 : decode cX3_swear 1 = .ok (.getfield 10, 3) := by decide +kernel
theorem dX3_swear_4 : decode cX3_swear 4 = .ok (.iload_n 1, 1) := by decide +kernel
theorem dX3_swear_5 : decode cX3_swear 5 = .ok (.invokevirtual 57, 3) := by decide +kernel
theorem dX3_swear_8 : decode cX3_swear 8 = .ok (.ifnonnull 13, 3) := by decide +kernel
theorem dX3_swear_11 : decode cX3_swear 11 = .ok (.new 34, 3) := by decide +kernel
theorem dX3_swear_14 : decode cX3_swear 14 = .ok (.dup, 1) := by decide +kernel
theorem dX3_swear_15 : decode cX3_swear 15 = .ok (.ldc 61, 2) := by decide +kernel
theorem dX3_swear_17 : decode cX3_swear 17 = .ok (.invokespecial 38, 3) := by decide +kernel
theorem dX3_swear_20 : decode cX3_swear 20 = .ok (.athrow, 1) := by decide +kernel
theorem dX3_swear_21 : decode cX3_swear 21 = .ok (.iload_n 2, 1) := by decide +kernel
theorem dX3_swear_22 : decode cX3_swear 22 = .ok (.iconst 0, 1) := by decide +kernel
theorem dX3_swear_23 : decode cX3_swear 23 = .ok (.bipush 25, 2) := by decide +kernel
theorem dX3_swear_25 : decode cX3_swear 25 = .ok (.invokestatic 19, 3) := by decide +kernel
theorem dX3_swear_28 : decode cX3_swear 28 = .ok (.ifCond .ne 13, 3) := by decide +kernel
theorem dX3_swear_31 : decode cX3_swear 31 = .ok (.new 23, 3) := by decide +kernel
theorem dX3_swear_34 : decode cX3_swear 34 = .ok (.dup, 1) := by decide +kernel
theorem dX3_swear_35 : decode cX3_swear 35 = .ok (.ldc 69, 2) := by decide +kernel
theorem dX3_swear_37 : decode cX3_swear 37 = .ok (.invokespecial 27, 3) := by decide +kernel
theorem dX3_swear_40 : decode cX3_swear 40 = .ok (.athrow, 1) := by decide +kernel
theorem dX3_swear_41 : decode cX3_swear 41 = .ok (.iload_n 3, 1) := by decide +kernel
theorem dX3_swear_42 : decode cX3_swear 42 = .ok (.iconst 5, 1) := by decide +kernel
theorem dX3_swear_43 : decode cX3_swear 43 = .ok (.bipush 12, 2) := by decide +kernel
theorem dX3_swear_45 : decode cX3_swear 45 = .ok (.invokestatic 19, 3) := by decide +kernel
theorem dX3_swear_48 : decode cX3_swear 48 = .ok (.ifCond .ne 13, 3) := by decide +kernel
theorem dX3_swear_51 : decode cX3_swear 51 = .ok (.new 23, 3) := by decide +kernel
theorem dX3_swear_54 : decode cX3_swear 54 = .ok (.dup, 1) := by decide +kernel
theorem dX3_swear_55 : decode cX3_swear 55 = .ok (.ldc 71, 2) := by decide +kernel
theorem dX3_swear_57 : decode cX3_swear 57 = .ok (.invokespecial 27, 3) := by decide +kernel
theorem dX3_swear_60 : decode cX3_swear 60 = .ok (.athrow, 1) := by decide +kernel
theorem dX3_swear_61 : decode cX3_swear 61 = .ok (.iload 4, 2) := by decide +kernel
theorem dX3_swear_63 : decode cX3_swear 63 = .ok (.iconst 0, 1) := by decide +kernel
theorem dX3_swear_64 : decode cX3_swear 64 = .ok (.bipush 90, 2) := by decide +kernel
theorem dX3_swear_66 : decode cX3_swear 66 = .ok (.invokestatic 19, 3) := by decide +kernel
theorem dX3_swear_69 : decode cX3_swear 69 = .ok (.ifCond .ne 13, 3) := by decide +kernel
theorem dX3_swear_72 : decode cX3_swear 72 = .ok (.new 23, 3) := by decide +kernel
theorem dX3_swear_75 : decode cX3_swear 75 = .ok (.dup, 1) := by decide +kernel
theorem dX3_swear_76 : decode cX3_swear 76 = .ok (.ldc 73, 2) := by decide +kernel
theorem dX3_swear_78 : decode cX3_swear 78 = .ok (.invokespecial 27, 3) := by decide +kernel
theorem dX3_swear_81 : decode cX3_swear 81 = .ok (.athrow, 1) := by decide +kernel
theorem dX3_swear_82 : decode cX3_swear 82 = .ok (.aload_n 0, 1) := by decide +kernel
theorem dX3_swear_83 : decode cX3_swear 83 = .ok (.getfield 10, 3) := by decide +kernel
theorem dX3_swear_86 : decode cX3_swear 86 = .ok (.iload_n 2, 1) := by decide +kernel
theorem dX3_swear_87 : decode cX3_swear 87 = .ok (.invokevirtual 75, 3) := by decide +kernel
theorem dX3_swear_90 : decode cX3_swear 90 = .ok (.ifCond .lt 13, 3) := by decide +kernel
theorem dX3_swear_93 : decode cX3_swear 93 = .ok (.new 52, 3) := by decide +kernel
theorem dX3_swear_96 : decode cX3_swear 96 = .ok (.dup, 1) := by decide +kernel
theorem dX3_swear_97 : decode cX3_swear 97 = .ok (.ldc 79, 2) := by decide +kernel
theorem dX3_swear_99 : decode cX3_swear 99 = .ok (.invokespecial 56, 3) := by decide +kernel
theorem dX3_swear_102 : decode cX3_swear 102 = .ok (.athrow, 1) := by decide +kernel
theorem dX3_swear_103 : decode cX3_swear 103 = .ok (.aload_n 0, 1) := by decide +kernel
theorem dX3_swear_104 : decode cX3_swear 104 = .ok (.getfield 10, 3) := by decide +kernel
theorem dX3_swear_107 : decode cX3_swear 107 = .ok (.iload_n 1, 1) := by decide +kernel
theorem dX3_swear_108 : decode cX3_swear 108 = .ok (.iload_n 2, 1) := by decide +kernel
theorem dX3_swear_109 : decode cX3_swear 109 = .ok (.iload_n 3, 1) := by decide +kernel
theorem dX3_swear_110 : decode cX3_swear 110 = .ok (.iload 4, 2) := by decide +kernel
theorem dX3_swear_112 : decode cX3_swear 112 = .ok (.invokevirtual 81, 3) := by decide +kernel
theorem dX3_swear_115 : decode cX3_swear 115 = .ok (.istore 5, 2) := by decide +kernel
theorem dX3_swear_117 : decode cX3_swear 117 = .ok (.iload 5, 2) := by decide +kernel
theorem dX3_swear_119 : decode cX3_swear 119 = .ok (.ifCond .ge 13, 3) := by decide +kernel
theorem dX3_swear_122 : decode cX3_swear 122 = .ok (.new 52, 3) := by decide +kernel
theorem dX3_swear_125 : decode cX3_swear 125 = .ok (.dup, 1) := by decide +kernel
theorem dX3_swear_126 : decode cX3_swear 126 = .ok (.ldc 85, 2) := by decide +kernel
theorem dX3_swear_128 : decode cX3_swear 128 = .ok (.invokespecial 56, 3) := by decide +kernel
theorem dX3_swear_131 : decode cX3_swear 131 = .ok (.athrow, 1) := by decide +kernel
theorem dX3_swear_132 : decode cX3_swear 132 = .ok (.iload 5, 2) := by decide +kernel
theorem dX3_swear_134 : decode cX3_swear 134 = .ok (.ireturn, 1) := by decide +kernel
set_option maxRecDepth 20000 in
theorem ggX3_deal_X2_bakerAt : GoodIn wsX3_deal wsX2_bakerAt := goodIn_r _ [11, 12, 27, 28, 29, 30, 31, 32, 33, 34, 35] (by decide +kernel) (by decide +kernel)
set_option maxRecDepth 20000 in
theorem gX3_deal_X2_bakerAt : GoodIn wsX3_deal (wsV RX3 87 RX2 yX2_bakerAt wsX2_bakerAt) := goodIn_app (goodIn_of _ (by decide +kernel)) ggX3_deal_X2_bakerAt
set_option maxRecDepth 20000 in
theorem ggX3_deal_X3_isWithin : GoodIn wsX3_deal wsX3_isWithin := goodIn_r _ [16] (by decide +kernel) (by decide +kernel)
set_option maxRecDepth 20000 in
theorem gX3_deal_X3_isWithin : GoodIn wsX3_deal (va_wsS RX3 19 yX3_isWithin wsX3_isWithin) := goodIn_app (goodIn_of _ (by decide +kernel)) ggX3_deal_X3_isWithin
theorem dX3_deal_0 : decode cX3_deal 0 = .ok (.aload_n 0, 1) := by decide +kernel
theorem dX3_deal_1 : decode cX3_deal 1 = .ok (.getfield 10, 3) := by decide +kernel
theorem dX3_deal_4 : decode cX3_deal 4 = .ok (.iload_n 1, 1) := by decide +kernel
theorem dX3_deal_5 : decode cX3_deal 5 = .ok (.invokevirtual 87, 3) := by decide +kernel
theorem dX3_deal_8 : decode cX3_deal 8 = .ok (.astore_n 3, 1) := by decide +kernel
theorem dX3_deal_9 : decode cX3_deal 9 = .ok (.aload_n 3, 1) := by decide +kernel
theorem dX3_deal_10 : decode cX3_deal 10 = .ok (.ifnonnull 13, 3) := by decide +kernel
theorem dX3_deal_13 : decode cX3_deal 13 = .ok (.new 34, 3) := by decide +kernel
theorem dX3_deal_16 : decode cX3_deal 16 = .ok (.dup, 1) := by decide +kernel
theorem dX3_deal_17 : decode cX3_deal 17 = .ok (.ldc 91, 2) := by decide +kernel
theorem dX3_deal_19 : decode cX3_deal 19 = .ok (.invokespecial 38, 3) := by decide +kernel
theorem dX3_deal_22 : decode cX3_deal 22 = .ok (.athrow, 1) := by decide +kernel
theorem dX3_deal_23 : decode cX3_deal 23 = .ok (.iload_n 2, 1) := by decide +kernel
theorem dX3_deal_24 : decode cX3_deal 24 = .ok (.iconst 0, 1) := by decide +kernel
theorem dX3_deal_25 : decode cX3_deal 25 = .ok (.bipush 90, 2) := by decide +kernel
theorem dX3_deal_27 : decode cX3_deal 27 = .ok (.invokestatic 19, 3) := by decide +kernel
theorem dX3_deal_30 : decode cX3_deal 30 = .ok (.ifCond .ne 13, 3) := by decide +kernel
theorem dX3_deal_33 : decode cX3_deal 33 = .ok (.new 23, 3) := by decide +kernel
theorem dX3_deal_36 : decode cX3_deal 36 = .ok (.dup, 1) := by decide +kernel
theorem dX3_deal_37 : decode cX3_deal 37 = .ok (.ldc 73, 2) := by decide +kernel
theorem dX3_deal_39 : decode cX3_deal 39 = .ok (.invokespecial 27, 3) := by decide +kernel
theorem dX3_deal_42 : decode cX3_deal 42 = .ok (.athrow, 1) := by decide +kernel
theorem dX3_deal_43 : decode cX3_deal 43 = .ok (.aload_n 3, 1) := by decide +kernel
theorem dX3_deal_44 : decode cX3_deal 44 = .ok (.getfield 93, 3) := by decide +kernel
theorem dX3_deal_47 : decode cX3_deal 47 = .ok (.istore 4, 2) := by decide +kernel
theorem dX3_deal_49 : decode cX3_deal 49 = .ok (.aload_n 3, 1) := by decide +kernel
theorem dX3_deal_50 : decode cX3_deal 50 = .ok (.iload_n 2, 1) := by decide +kernel
theorem dX3_deal_51 : decode cX3_deal 51 = .ok (.putfield 93, 3) := by decide +kernel
theorem dX3_deal_54 : decode cX3_deal 54 = .ok (.iload 4, 2) := by decide +kernel
theorem dX3_deal_56 : decode cX3_deal 56 = .ok (.ireturn, 1) := by decide +kernel
set_option maxRecDepth 20000 in
theorem ggX3_weigh_X2_bakerAt : GoodIn wsX3_weigh wsX2_bakerAt := goodIn_r _ [11, 12, 35, 36, 37, 38, 39, 40, 41, 42, 43] (by decide +kernel) (by decide +kernel)
set_option maxRecDepth 20000 in
theorem gX3_weigh_X2_bakerAt : GoodIn wsX3_weigh (wsV RX3 87 RX2 yX2_bakerAt wsX2_bakerAt) := goodIn_app (goodIn_of _ (by decide +kernel)) ggX3_weigh_X2_bakerAt
set_option maxRecDepth 20000 in
theorem ggX3_weigh_X0_inspect : GoodIn wsX3_weigh wsX0_inspect := goodIn_r _ [17, 18, 19, 20, 21, 22, 23, 16, 24, 27, 28, 29, 30, 31, 32, 33, 34] (by decide +kernel) (by decide +kernel)
set_option maxRecDepth 20000 in
theorem gX3_weigh_X0_inspect : GoodIn wsX3_weigh (wsV RX3 103 RX0 yX0_inspect wsX0_inspect) := goodIn_app (goodIn_of _ (by decide +kernel)) ggX3_weigh_X0_inspect
theorem dX3_weigh_0 : decode cX3_weigh 0 = .ok (.aload_n 0, 1) := by decide +kernel
theorem dX3_weigh_1 : decode cX3_weigh 1 = .ok (.getfield 10, 3) := by decide +kernel
theorem dX3_weigh_4 : decode cX3_weigh 4 = .ok (.iload_n 1, 1) := by decide +kernel
theorem dX3_weigh_5 : decode cX3_weigh 5 = .ok (.invokevirtual 87, 3) := by decide +kernel
theorem dX3_weigh_8 : decode cX3_weigh 8 = .ok (.astore_n 2, 1) := by decide +kernel
theorem dX3_weigh_9 : decode cX3_weigh 9 = .ok (.aload_n 2, 1) := by decide +kernel
theorem dX3_weigh_10 : decode cX3_weigh 10 = .ok (.ifnonnull 13, 3) := by decide +kernel
theorem dX3_weigh_13 : decode cX3_weigh 13 = .ok (.new 34, 3) := by decide +kernel
theorem dX3_weigh_16 : decode cX3_weigh 16 = .ok (.dup, 1) := by decide +kernel
theorem dX3_weigh_17 : decode cX3_weigh 17 = .ok (.ldc 91, 2) := by decide +kernel
theorem dX3_weigh_19 : decode cX3_weigh 19 = .ok (.invokespecial 38, 3) := by decide +kernel
theorem dX3_weigh_22 : decode cX3_weigh 22 = .ok (.athrow, 1) := by decide +kernel
theorem dX3_weigh_23 : decode cX3_weigh 23 = .ok (.aload_n 2, 1) := by decide +kernel
theorem dX3_weigh_24 : decode cX3_weigh 24 = .ok (.getfield 98, 3) := by decide +kernel
theorem dX3_weigh_27 : decode cX3_weigh 27 = .ok (.ifCond .gt 13, 3) := by decide +kernel
theorem dX3_weigh_30 : decode cX3_weigh 30 = .ok (.new 52, 3) := by decide +kernel
theorem dX3_weigh_33 : decode cX3_weigh 33 = .ok (.dup, 1) := by decide +kernel
theorem dX3_weigh_34 : decode cX3_weigh 34 = .ok (.ldc 101, 2) := by decide +kernel
theorem dX3_weigh_36 : decode cX3_weigh 36 = .ok (.invokespecial 56, 3) := by decide +kernel
theorem dX3_weigh_39 : decode cX3_weigh 39 = .ok (.athrow, 1) := by decide +kernel
theorem dX3_weigh_40 : decode cX3_weigh 40 = .ok (.aload_n 2, 1) := by decide +kernel
theorem dX3_weigh_41 : decode cX3_weigh 41 = .ok (.invokevirtual 103, 3) := by decide +kernel
theorem dX3_weigh_44 : decode cX3_weigh 44 = .ok (.ireturn, 1) := by decide +kernel
set_option maxRecDepth 20000 in
theorem ggX3_pardon_X2_bakerAt : GoodIn wsX3_pardon wsX2_bakerAt := goodIn_r _ [8, 9, 23, 24, 25, 26, 27, 28, 29, 30, 31] (by decide +kernel) (by decide +kernel)
set_option maxRecDepth 20000 in
theorem gX3_pardon_X2_bakerAt : GoodIn wsX3_pardon (wsV RX3 87 RX2 yX2_bakerAt wsX2_bakerAt) := goodIn_app (goodIn_of _ (by decide +kernel)) ggX3_pardon_X2_bakerAt
set_option maxRecDepth 20000 in
theorem ggX3_pardon_X0_forgive : GoodIn wsX3_pardon wsX0_forgive := goodIn_r _ [14, 15, 16, 17, 18, 19, 20, 32, 33, 34, 35, 36, 37, 38, 39] (by decide +kernel) (by decide +kernel)
set_option maxRecDepth 20000 in
theorem gX3_pardon_X0_forgive : GoodIn wsX3_pardon (wsV RX3 106 RX0 yX0_forgive wsX0_forgive) := goodIn_app (goodIn_of _ (by decide +kernel)) ggX3_pardon_X0_forgive
theorem dX3_pardon_0 : decode cX3_pardon 0 = .ok (.aload_n 0, 1) := by decide +kernel
theorem dX3_pardon_1 : decode cX3_pardon 1 = .ok (.getfield 10, 3) := by decide +kernel
theorem dX3_pardon_4 : decode cX3_pardon 4 = .ok (.iload_n 1, 1) := by decide +kernel
theorem dX3_pardon_5 : decode cX3_pardon 5 = .ok (.invokevirtual 87, 3) := by decide +kernel
theorem dX3_pardon_8 : decode cX3_pardon 8 = .ok (.astore_n 2, 1) := by decide +kernel
theorem dX3_pardon_9 : decode cX3_pardon 9 = .ok (.aload_n 2, 1) := by decide +kernel
theorem dX3_pardon_10 : decode cX3_pardon 10 = .ok (.ifnonnull 13, 3) := by decide +kernel
theorem dX3_pardon_13 : decode cX3_pardon 13 = .ok (.new 34, 3) := by decide +kernel
theorem dX3_pardon_16 : decode cX3_pardon 16 = .ok (.dup, 1) := by decide +kernel
theorem dX3_pardon_17 : decode cX3_pardon 17 = .ok (.ldc 91, 2) := by decide +kernel
theorem dX3_pardon_19 : decode cX3_pardon 19 = .ok (.invokespecial 38, 3) := by decide +kernel
theorem dX3_pardon_22 : decode cX3_pardon 22 = .ok (.athrow, 1) := by decide +kernel
theorem dX3_pardon_23 : decode cX3_pardon 23 = .ok (.aload_n 2, 1) := by decide +kernel
theorem dX3_pardon_24 : decode cX3_pardon 24 = .ok (.invokevirtual 106, 3) := by decide +kernel
theorem dX3_pardon_27 : decode cX3_pardon 27 = .ok (.ireturn, 1) := by decide +kernel
set_option maxRecDepth 20000 in
theorem ggX3_store_X2_storeAt : GoodIn wsX3_store wsX2_storeAt := goodIn_r _ [8, 9, 30, 31, 32, 33, 34, 35, 36, 37, 38] (by decide +kernel) (by decide +kernel)
set_option maxRecDepth 20000 in
theorem gX3_store_X2_storeAt : GoodIn wsX3_store (wsV RX3 57 RX2 yX2_storeAt wsX2_storeAt) := goodIn_app (goodIn_of _ (by decide +kernel)) ggX3_store_X2_storeAt
set_option maxRecDepth 20000 in
theorem ggX3_store_X3_isWithin : GoodIn wsX3_store wsX3_isWithin := goodIn_r _ [13] (by decide +kernel) (by decide +kernel)
set_option maxRecDepth 20000 in
theorem gX3_store_X3_isWithin : GoodIn wsX3_store (va_wsS RX3 19 yX3_isWithin wsX3_isWithin) := goodIn_app (goodIn_of _ (by decide +kernel)) ggX3_store_X3_isWithin
set_option maxRecDepth 20000 in
theorem ggX3_store_X2_storeFact : GoodIn wsX3_store wsX2_storeFact := goodIn_r _ [17, 18, 19, 20, 21, 5, 6, 7, 8, 9, 22, 23, 24, 25, 26, 27, 39, 40, 41, 30, 31, 32, 33, 34, 35, 36, 37, 38, 42, 43, 44, 45, 46, 47, 48, 49] (by decide +kernel) (by decide +kernel)
set_option maxRecDepth 20000 in
theorem gX3_store_X2_storeFact : GoodIn wsX3_store (wsV RX3 112 RX2 yX2_storeFact wsX2_storeFact) := goodIn_app (goodIn_of _ (by decide +kernel)) ggX3_store_X2_storeFact
theorem dX3_store_0 : decode cX3_store 0 = .ok (.aload_n 0, 1) := by decide +kernel
theorem dX3_store_1 : decode cX3_store 1 = .ok (.getfield 10, 3) := by decide +kernel
theorem dX3_store_4 : decode cX3_store 4 = .ok (.iload_n 1, 1) := by decide +kernel
theorem dX3_store_5 : decode cX3_store 5 = .ok (.invokevirtual 57, 3) := by decide +kernel
theorem dX3_store_8 : decode cX3_store 8 = .ok (.ifnonnull 13, 3) := by decide +kernel
theorem dX3_store_11 : decode cX3_store 11 = .ok (.new 34, 3) := by decide +kernel
theorem dX3_store_14 : decode cX3_store 14 = .ok (.dup, 1) := by decide +kernel
theorem dX3_store_15 : decode cX3_store 15 = .ok (.ldc 61, 2) := by decide +kernel
theorem dX3_store_17 : decode cX3_store 17 = .ok (.invokespecial 38, 3) := by decide +kernel
theorem dX3_store_20 : decode cX3_store 20 = .ok (.athrow, 1) := by decide +kernel
theorem dX3_store_21 : decode cX3_store 21 = .ok (.iload_n 2, 1) := by decide +kernel
theorem dX3_store_22 : decode cX3_store 22 = .ok (.iconst 0, 1) := by decide +kernel
theorem dX3_store_23 : decode cX3_store 23 = .ok (.iconst 3, 1) := by decide +kernel
theorem dX3_store_24 : decode cX3_store 24 = .ok (.invokestatic 19, 3) := by decide +kernel
theorem dX3_store_27 : decode cX3_store 27 = .ok (.ifCond .ne 13, 3) := by decide +kernel
theorem dX3_store_30 : decode cX3_store 30 = .ok (.new 34, 3) := by decide +kernel
theorem dX3_store_33 : decode cX3_store 33 = .ok (.dup, 1) := by decide +kernel
theorem dX3_store_34 : decode cX3_store 34 = .ok (.ldc 110, 2) := by decide +kernel
theorem dX3_store_36 : decode cX3_store 36 = .ok (.invokespecial 38, 3) := by decide +kernel
theorem dX3_store_39 : decode cX3_store 39 = .ok (.athrow, 1) := by decide +kernel
theorem dX3_store_40 : decode cX3_store 40 = .ok (.aload_n 0, 1) := by decide +kernel
theorem dX3_store_41 : decode cX3_store 41 = .ok (.getfield 10, 3) := by decide +kernel
theorem dX3_store_44 : decode cX3_store 44 = .ok (.iload_n 1, 1) := by decide +kernel
theorem dX3_store_45 : decode cX3_store 45 = .ok (.iload_n 2, 1) := by decide +kernel
theorem dX3_store_46 : decode cX3_store 46 = .ok (.invokevirtual 112, 3) := by decide +kernel
theorem dX3_store_49 : decode cX3_store 49 = .ok (.ireturn, 1) := by decide +kernel
set_option maxRecDepth 20000 in
theorem ggX3_baker_X2_bakerAt : GoodIn wsX3_baker wsX2_bakerAt := goodIn_r _ [8, 9, 29, 30, 31, 32, 33, 34, 35, 36, 37] (by decide +kernel) (by decide +kernel)
set_option maxRecDepth 20000 in
theorem gX3_baker_X2_bakerAt : GoodIn wsX3_baker (wsV RX3 87 RX2 yX2_bakerAt wsX2_bakerAt) := goodIn_app (goodIn_of _ (by decide +kernel)) ggX3_baker_X2_bakerAt
set_option maxRecDepth 20000 in
theorem ggX3_baker_X3_isWithin : GoodIn wsX3_baker wsX3_isWithin := goodIn_r _ [13] (by decide +kernel) (by decide +kernel)
set_option maxRecDepth 20000 in
theorem gX3_baker_X3_isWithin : GoodIn wsX3_baker (va_wsS RX3 19 yX3_isWithin wsX3_isWithin) := goodIn_app (goodIn_of _ (by decide +kernel)) ggX3_baker_X3_isWithin
set_option maxRecDepth 20000 in
theorem ggX3_baker_X0_fact : GoodIn wsX3_baker wsX0_fact := goodIn_r _ [18, 19, 20, 21, 22, 23, 24, 25, 26, 38, 39, 40, 41, 42, 43, 44, 45] (by decide +kernel) (by decide +kernel)
set_option maxRecDepth 20000 in
theorem gX3_baker_X0_fact : GoodIn wsX3_baker (wsV RX3 117 RX0 yX0_fact wsX0_fact) := goodIn_app (goodIn_of _ (by decide +kernel)) ggX3_baker_X0_fact
theorem dX3_baker_0 : decode cX3_baker 0 = .ok (.aload_n 0, 1) := by decide +kernel
theorem dX3_baker_1 : decode cX3_baker 1 = .ok (.getfield 10, 3) := by decide +kernel
theorem dX3_baker_4 : decode cX3_baker 4 = .ok (.iload_n 1, 1) := by decide +kernel
theorem dX3_baker_5 : decode cX3_baker 5 = .ok (.invokevirtual 87, 3) := by decide +kernel
theorem dX3_baker_8 : decode cX3_baker 8 = .ok (.astore_n 3, 1) := by decide +kernel
theorem dX3_baker_9 : decode cX3_baker 9 = .ok (.aload_n 3, 1) := by decide +kernel
theorem dX3_baker_10 : decode cX3_baker 10 = .ok (.ifnonnull 13, 3) := by decide +kernel
theorem dX3_baker_13 : decode cX3_baker 13 = .ok (.new 34, 3) := by decide +kernel
theorem dX3_baker_16 : decode cX3_baker 16 = .ok (.dup, 1) := by decide +kernel
theorem dX3_baker_17 : decode cX3_baker 17 = .ok (.ldc 91, 2) := by decide +kernel
theorem dX3_baker_19 : decode cX3_baker 19 = .ok (.invokespecial 38, 3) := by decide +kernel
theorem dX3_baker_22 : decode cX3_baker 22 = .ok (.athrow, 1) := by decide +kernel
theorem dX3_baker_23 : decode cX3_baker 23 = .ok (.iload_n 2, 1) := by decide +kernel
theorem dX3_baker_24 : decode cX3_baker 24 = .ok (.iconst 0, 1) := by decide +kernel
theorem dX3_baker_25 : decode cX3_baker 25 = .ok (.bipush 7, 2) := by decide +kernel
theorem dX3_baker_27 : decode cX3_baker 27 = .ok (.invokestatic 19, 3) := by decide +kernel
theorem dX3_baker_30 : decode cX3_baker 30 = .ok (.ifCond .ne 13, 3) := by decide +kernel
theorem dX3_baker_33 : decode cX3_baker 33 = .ok (.new 34, 3) := by decide +kernel
theorem dX3_baker_36 : decode cX3_baker 36 = .ok (.dup, 1) := by decide +kernel
theorem dX3_baker_37 : decode cX3_baker 37 = .ok (.ldc 115, 2) := by decide +kernel
theorem dX3_baker_39 : decode cX3_baker 39 = .ok (.invokespecial 38, 3) := by decide +kernel
theorem dX3_baker_42 : decode cX3_baker 42 = .ok (.athrow, 1) := by decide +kernel
theorem dX3_baker_43 : decode cX3_baker 43 = .ok (.aload_n 3, 1) := by decide +kernel
theorem dX3_baker_44 : decode cX3_baker 44 = .ok (.iload_n 2, 1) := by decide +kernel
theorem dX3_baker_45 : decode cX3_baker 45 = .ok (.invokevirtual 117, 3) := by decide +kernel
theorem dX3_baker_48 : decode cX3_baker 48 = .ok (.ireturn, 1) := by decide +kernel
set_option maxRecDepth 20000 in
theorem ggX3_whose_X3_isWithin : GoodIn wsX3_whose wsX3_isWithin := goodIn_r _ [7] (by decide +kernel) (by decide +kernel)
set_option maxRecDepth 20000 in
theorem gX3_whose_X3_isWithin : GoodIn wsX3_whose (va_wsS RX3 19 yX3_isWithin wsX3_isWithin) := goodIn_app (goodIn_of _ (by decide +kernel)) ggX3_whose_X3_isWithin
set_option maxRecDepth 20000 in
theorem ggX3_whose_X2_bakerWithMark : GoodIn wsX3_whose wsX2_bakerWithMark := goodIn_r _ [12, 13, 14, 17, 18, 19, 20, 21, 22, 23, 24, 25, 26, 27, 28, 29, 30, 31, 32, 33] (by decide +kernel) (by decide +kernel)
set_option maxRecDepth 20000 in
theorem gX3_whose_X2_bakerWithMark : GoodIn wsX3_whose (wsV RX3 75 RX2 yX2_bakerWithMark wsX2_bakerWithMark) := goodIn_app (goodIn_of _ (by decide +kernel)) ggX3_whose_X2_bakerWithMark
theorem dX3_whose_0 : decode cX3_whose 0 = .ok (.iload_n 1, 1) := by decide +kernel
theorem dX3_whose_1 : decode cX3_whose 1 = .ok (.iconst 0, 1) := by decide +kernel
theorem dX3_whose_2 : decode cX3_whose 2 = .ok (.bipush 25, 2) := by decide +kernel
theorem dX3_whose_4 : decode cX3_whose 4 = .ok (.invokestatic 19, 3) := by decide +kernel
theorem dX3_whose_7 : decode cX3_whose 7 = .ok (.ifCond .ne 13, 3) := by decide +kernel
theorem dX3_whose_10 : decode cX3_whose 10 = .ok (.new 23, 3) := by decide +kernel
theorem dX3_whose_13 : decode cX3_whose 13 = .ok (.dup, 1) := by decide +kernel
theorem dX3_whose_14 : decode cX3_whose 14 = .ok (.ldc 69, 2) := by decide +kernel
theorem dX3_whose_16 : decode cX3_whose 16 = .ok (.invokespecial 27, 3) := by decide +kernel
theorem dX3_whose_19 : decode cX3_whose 19 = .ok (.athrow, 1) := by decide +kernel
theorem dX3_whose_20 : decode cX3_whose 20 = .ok (.aload_n 0, 1) := by decide +kernel
theorem dX3_whose_21 : decode cX3_whose 21 = .ok (.getfield 10, 3) := by decide +kernel
theorem dX3_whose_24 : decode cX3_whose 24 = .ok (.iload_n 1, 1) := by decide +kernel
theorem dX3_whose_25 : decode cX3_whose 25 = .ok (.invokevirtual 75, 3) := by decide +kernel
theorem dX3_whose_28 : decode cX3_whose 28 = .ok (.ireturn, 1) := by decide +kernel
set_option maxRecDepth 20000 in
theorem ggX3_count_X3_isWithin : GoodIn wsX3_count wsX3_isWithin := goodIn_r _ [7] (by decide +kernel) (by decide +kernel)
set_option maxRecDepth 20000 in
theorem gX3_count_X3_isWithin : GoodIn wsX3_count (va_wsS RX3 19 yX3_isWithin wsX3_isWithin) := goodIn_app (goodIn_of _ (by decide +kernel)) ggX3_count_X3_isWithin
set_option maxRecDepth 20000 in
theorem ggX3_count_X2_fact : GoodIn wsX3_count wsX2_fact := goodIn_r _ [12, 13, 14, 15, 16, 17, 18, 19, 20, 21, 11, 22, 23, 24, 25, 26, 27, 28, 29, 30, 31, 32, 33, 34, 35, 36, 37, 38, 39, 40, 41, 42, 43, 46, 47, 48, 49, 50, 51, 52, 53, 54, 55, 56, 57, 58, 59, 60, 61, 62, 63, 64, 65] (by decide +kernel) (by decide +kernel)
set_option maxRecDepth 20000 in
theorem gX3_count_X2_fact : GoodIn wsX3_count (wsV RX3 122 RX2 yX2_fact wsX2_fact) := goodIn_app (goodIn_of _ (by decide +kernel)) ggX3_count_X2_fact
theorem dX3_count_0 : decode cX3_count 0 = .ok (.iload_n 1, 1) := by decide +kernel
theorem dX3_count_1 : decode cX3_count 1 = .ok (.iconst 0, 1) := by decide +kernel
theorem dX3_count_2 : decode cX3_count 2 = .ok (.bipush 9, 2) := by decide +kernel
theorem dX3_count_4 : decode cX3_count 4 = .ok (.invokestatic 19, 3) := by decide +kernel
theorem dX3_count_7 : decode cX3_count 7 = .ok (.ifCond .ne 13, 3) := by decide +kernel
theorem dX3_count_10 : decode cX3_count 10 = .ok (.new 34, 3) := by decide +kernel
theorem dX3_count_13 : decode cX3_count 13 = .ok (.dup, 1) := by decide +kernel
theorem dX3_count_14 : decode cX3_count 14 = .ok (.ldc 120, 2) := by decide +kernel
theorem dX3_count_16 : decode cX3_count 16 = .ok (.invokespecial 38, 3) := by decide +kernel
theorem dX3_count_19 : decode cX3_count 19 = .ok (.athrow, 1) := by decide +kernel
theorem dX3_count_20 : decode cX3_count 20 = .ok (.aload_n 0, 1) := by decide +kernel
theorem dX3_count_21 : decode cX3_count 21 = .ok (.getfield 10, 3) := by decide +kernel
theorem dX3_count_24 : decode cX3_count 24 = .ok (.iload_n 1, 1) := by decide +kernel
theorem dX3_count_25 : decode cX3_count 25 = .ok (.invokevirtual 122, 3) := by decide +kernel
theorem dX3_count_28 : decode cX3_count 28 = .ok (.ireturn, 1) := by decide +kernel
set_option maxRecDepth 20000 in
theorem ggX3_pass_X3_isWithin : GoodIn wsX3_pass wsX3_isWithin := goodIn_r _ [7] (by decide +kernel) (by decide +kernel)
set_option maxRecDepth 20000 in
theorem gX3_pass_X3_isWithin : GoodIn wsX3_pass (va_wsS RX3 19 yX3_isWithin wsX3_isWithin) := goodIn_app (goodIn_of _ (by decide +kernel)) ggX3_pass_X3_isWithin
set_option maxRecDepth 20000 in
theorem ggX3_pass_X2_goThrough : GoodIn wsX3_pass wsX2_goThrough := goodIn_r _ [12, 13, 14, 15, 11, 16, 17, 18, 19, 20, 21, 22, 23, 24, 25, 26, 27, 28, 29, 30, 31, 32, 33, 34, 35, 36, 37, 38, 39, 40, 41, 42, 43, 44, 45, 46, 47, 48, 49, 50, 51, 52, 53, 54, 55, 56, 57, 58, 59, 60, 61, 62, 63, 64, 65, 66, 67, 68, 69, 70, 71, 72, 73, 74, 75, 76, 77, 78, 79, 80, 81, 82, 83, 84, 85, 86, 87, 88, 89, 90, 91, 92, 93, 94, 95, 96, 97, 98, 99, 100, 101, 102, 103, 104, 105, 106, 107, 108, 109, 110, 113, 114, 115, 116, 117, 118, 119, 120, 121, 122, 123, 124, 125, 126, 127, 128, 129, 130, 131, 132] (by decide +kernel) (by decide +kernel)
set_option maxRecDepth 20000 in
theorem gX3_pass_X2_goThrough : GoodIn wsX3_pass (wsV RX3 125 RX2 yX2_goThrough wsX2_goThrough) := goodIn_app (goodIn_of _ (by decide +kernel)) ggX3_pass_X2_goThrough
theorem dX3_pass_0 : decode cX3_pass 0 = .ok (.iload_n 1, 1) := by decide +kernel
theorem dX3_pass_1 : decode cX3_pass 1 = .ok (.iconst 1, 1) := by decide +kernel
theorem dX3_pass_2 : decode cX3_pass 2 = .ok (.sipush 240, 3) := by decide +kernel
theorem dX3_pass_5 : decode cX3_pass 5 = .ok (.invokestatic 19, 3) := by decide +kernel
theorem dX3_pass_8 : decode cX3_pass 8 = .ok (.ifCond .ne 13, 3) := by decide +kernel
theorem dX3_pass_11 : decode cX3_pass 11 = .ok (.new 23, 3) := by decide +kernel
theorem dX3_pass_14 : decode cX3_pass 14 = .ok (.dup, 1) := by decide +kernel
theorem dX3_pass_15 : decode cX3_pass 15 = .ok (.ldc 123, 2) := by decide +kernel
theorem dX3_pass_17 : decode cX3_pass 17 = .ok (.invokespecial 27, 3) := by decide +kernel
theorem dX3_pass_20 : decode cX3_pass 20 = .ok (.athrow, 1) := by decide +kernel
theorem dX3_pass_21 : decode cX3_pass 21 = .ok (.aload_n 0, 1) := by decide +kernel
theorem dX3_pass_22 : decode cX3_pass 22 = .ok (.getfield 10, 3) := by decide +kernel
theorem dX3_pass_25 : decode cX3_pass 25 = .ok (.iload_n 1, 1) := by decide +kernel
theorem dX3_pass_26 : decode cX3_pass 26 = .ok (.invokevirtual 125, 3) := by decide +kernel
theorem dX3_pass_29 : decode cX3_pass 29 = .ok (.ireturn, 1) := by decide +kernel
set_option maxRecDepth 20000 in
theorem ggX3_lasts_X2_becomeLike : GoodIn wsX3_lasts wsX2_becomeLike := goodIn_r _ [7, 8, 9, 10, 11, 12, 13, 14, 15, 16, 17, 6, 18, 19, 20, 21, 22, 23, 24, 25, 26, 27, 28, 29, 30, 31, 32, 33, 34, 35, 36, 37, 38, 39, 40, 41, 42, 43, 44, 45, 46, 47, 48, 49, 50, 51, 52, 53, 54, 55, 56, 57, 58, 59, 60, 61, 62, 63, 64, 65, 66, 67, 68, 69, 70, 71, 145, 146, 147, 148, 149, 150, 151, 152, 153, 154, 155, 156, 157, 158, 159, 160, 161, 162, 163, 164] (by decide +kernel) (by decide +kernel)
set_option maxRecDepth 20000 in
theorem gX3_lasts_X2_becomeLike : GoodIn wsX3_lasts (wsV RX3 128 RX2 yX2_becomeLike wsX2_becomeLike) := goodIn_app (goodIn_of _ (by decide +kernel)) ggX3_lasts_X2_becomeLike
set_option maxRecDepth 20000 in
theorem ggX3_lasts_X2_goThroughHour : GoodIn wsX3_lasts wsX2_goThroughHour := goodIn_r _ [75, 8, 76, 77, 78, 6, 79, 80, 81, 82, 83, 15, 16, 17, 18, 14, 84, 85, 86, 87, 13, 88, 89, 90, 91, 23, 92, 93, 94, 95, 26, 96, 37, 97, 98, 99, 100, 101, 102, 103, 104, 48, 105, 106, 107, 108, 27, 28, 29, 30, 109, 110, 111, 112, 113, 114, 115, 116, 117, 118, 119, 120, 43, 38, 121, 122, 123, 124, 125, 126, 127, 128, 51, 129, 71, 62, 68, 130, 69, 131, 132, 133, 134, 9, 10, 11, 12, 135, 136, 137, 138, 70, 139, 140, 141, 142, 145, 146, 147, 148, 149, 150, 151, 152, 153, 154, 155, 156, 157, 158, 159, 160, 161, 162, 163, 164] (by decide +kernel) (by decide +kernel)
set_option maxRecDepth 20000 in
theorem gX3_lasts_X2_goThroughHour : GoodIn wsX3_lasts (wsV RX3 132 RX2 yX2_goThroughHour wsX2_goThroughHour) := goodIn_app (goodIn_of _ (by decide +kernel)) ggX3_lasts_X2_goThroughHour
theorem dX3_lasts_0 : decode cX3_lasts 0 = .ok (.aload_n 0, 1) := by decide +kernel
theorem dX3_lasts_1 : decode cX3_lasts 1 = .ok (.getfield 16, 3) := by decide +kernel
theorem dX3_lasts_4 : decode cX3_lasts 4 = .ok (.aload_n 0, 1) := by decide +kernel
theorem dX3_lasts_5 : decode cX3_lasts 5 = .ok (.getfield 10, 3) := by decide +kernel
theorem dX3_lasts_8 : decode cX3_lasts 8 = .ok (.invokevirtual 128, 3) := by decide +kernel
theorem dX3_lasts_11 : decode cX3_lasts 11 = .ok (.iconst 1, 1) := by decide +kernel
theorem dX3_lasts_12 : decode cX3_lasts 12 = .ok (.istore_n 1, 1) := by decide +kernel
theorem dX3_lasts_13 : decode cX3_lasts 13 = .ok (.iload_n 1, 1) := by decide +kernel
theorem dX3_lasts_14 : decode cX3_lasts 14 = .ok (.sipush 480, 3) := by decide +kernel
theorem dX3_lasts_17 : decode cX3_lasts 17 = .ok (.if_icmp .gt 21, 3) := by decide +kernel
theorem dX3_lasts_20 : decode cX3_lasts 20 = .ok (.aload_n 0, 1) := by decide +kernel
theorem dX3_lasts_21 : decode cX3_lasts 21 = .ok (.getfield 16, 3) := by decide +kernel
theorem dX3_lasts_24 : decode cX3_lasts 24 = .ok (.invokevirtual 132, 3) := by decide +kernel
theorem dX3_lasts_27 : decode cX3_lasts 27 = .ok (.ifCond .le 5, 3) := by decide +kernel
theorem dX3_lasts_30 : decode cX3_lasts 30 = .ok (.iload_n 1, 1) := by decide +kernel
theorem dX3_lasts_31 : decode cX3_lasts 31 = .ok (.ireturn, 1) := by decide +kernel
theorem dX3_lasts_32 : decode cX3_lasts 32 = .ok (.iinc 1 1, 3) := by decide +kernel
theorem dX3_lasts_35 : decode cX3_lasts 35 = .ok (.goto (-22), 3) := by decide +kernel
theorem dX3_lasts_38 : decode cX3_lasts 38 = .ok (.iconst (-1), 1) := by decide +kernel
theorem dX3_lasts_39 : decode cX3_lasts 39 = .ok (.ireturn, 1) := by decide +kernel
set_option maxRecDepth 20000 in
theorem ggX3_foresee_X3_isWithin : GoodIn wsX3_foresee wsX3_isWithin := goodIn_r _ [10] (by decide +kernel) (by decide +kernel)
set_option maxRecDepth 20000 in
theorem gX3_foresee_X3_isWithin : GoodIn wsX3_foresee (va_wsS RX3 19 yX3_isWithin wsX3_isWithin) := goodIn_app (goodIn_of _ (by decide +kernel)) ggX3_foresee_X3_isWithin
set_option maxRecDepth 20000 in
theorem ggX3_foresee_X2_becomeLike : GoodIn wsX3_foresee wsX2_becomeLike := goodIn_r _ [15, 16, 17, 18, 19, 20, 21, 22, 23, 24, 25, 14, 26, 27, 28, 29, 30, 31, 32, 33, 34, 35, 36, 37, 38, 39, 40, 41, 42, 43, 44, 45, 46, 47, 48, 49, 50, 51, 52, 53, 54, 55, 56, 57, 58, 59, 60, 61, 62, 63, 64, 65, 66, 67, 68, 69, 70, 71, 72, 73, 74, 75, 76, 77, 78, 79, 171, 172, 173, 174, 175, 176, 177, 178, 179, 180, 181, 182, 183, 184, 185, 186, 187, 188, 189, 190] (by decide +kernel) (by decide +kernel)
set_option maxRecDepth 20000 in
theorem gX3_foresee_X2_becomeLike : GoodIn wsX3_foresee (wsV RX3 128 RX2 yX2_becomeLike wsX2_becomeLike) := goodIn_app (goodIn_of _ (by decide +kernel)) ggX3_foresee_X2_becomeLike
set_option maxRecDepth 20000 in
theorem ggX3_foresee_X2_goThrough : GoodIn wsX3_foresee wsX2_goThrough := goodIn_r _ [83, 84, 85, 86, 14, 87, 16, 88, 89, 90, 91, 92, 93, 94, 95, 23, 24, 25, 26, 22, 96, 97, 98, 99, 21, 100, 101, 102, 103, 31, 104, 105, 106, 107, 34, 108, 45, 109, 110, 111, 112, 113, 114, 115, 116, 56, 117, 118, 119, 120, 35, 36, 37, 38, 121, 122, 123, 124, 125, 126, 127, 128, 129, 130, 131, 132, 51, 46, 133, 134, 135, 136, 137, 138, 139, 140, 59, 141, 79, 70, 76, 142, 77, 143, 144, 145, 146, 17, 18, 19, 20, 147, 148, 149, 150, 78, 151, 152, 153, 154, 171, 172, 173, 174, 175, 176, 177, 178, 179, 180, 181, 182, 183, 184, 185, 186, 187, 188, 189, 190] (by decide +kernel) (by decide +kernel)
set_option maxRecDepth 20000 in
theorem gX3_foresee_X2_goThrough : GoodIn wsX3_foresee (wsV RX3 125 RX2 yX2_goThrough wsX2_goThrough) := goodIn_app (goodIn_of _ (by decide +kernel)) ggX3_foresee_X2_goThrough
set_option maxRecDepth 20000 in
theorem ggX3_foresee_X2_flourOfAll : GoodIn wsX3_foresee wsX2_flourOfAll := goodIn_r _ [158, 31, 104, 171, 172, 173, 174, 175, 176, 177, 178, 179, 180, 181, 182] (by decide +kernel) (by decide +kernel)
set_option maxRecDepth 20000 in
theorem gX3_foresee_X2_flourOfAll : GoodIn wsX3_foresee (wsV RX3 135 RX2 yX2_flourOfAll wsX2_flourOfAll) := goodIn_app (goodIn_of _ (by decide +kernel)) ggX3_foresee_X2_flourOfAll
set_option maxRecDepth 20000 in
theorem ggX3_foresee_X2_loavesOfAll : GoodIn wsX3_foresee wsX2_loavesOfAll := goodIn_r _ [162, 56, 163, 171, 172, 173, 174, 175, 176, 177, 178, 179, 183, 184, 185, 186, 187, 188, 189, 190] (by decide +kernel) (by decide +kernel)
set_option maxRecDepth 20000 in
theorem gX3_foresee_X2_loavesOfAll : GoodIn wsX3_foresee (wsV RX3 138 RX2 yX2_loavesOfAll wsX2_loavesOfAll) := goodIn_app (goodIn_of _ (by decide +kernel)) ggX3_foresee_X2_loavesOfAll
set_option maxRecDepth 20000 in
theorem ggX3_foresee_X2_weevilsOfAll : GoodIn wsX3_foresee wsX2_weevilsOfAll := goodIn_r _ [167, 31, 168, 171, 172, 173, 174, 175, 176, 177, 178, 179, 180, 181, 182] (by decide +kernel) (by decide +kernel)
set_option maxRecDepth 20000 in
theorem gX3_foresee_X2_weevilsOfAll : GoodIn wsX3_foresee (wsV RX3 141 RX2 yX2_weevilsOfAll wsX2_weevilsOfAll) := goodIn_app (goodIn_of _ (by decide +kernel)) ggX3_foresee_X2_weevilsOfAll
theorem dX3_foresee_0 : decode cX3_foresee 0 = .ok (.iload_n 1, 1) := by decide +kernel
theorem dX3_foresee_1 : decode cX3_foresee 1 = .ok (.iconst 1, 1) := by decide +kernel
theorem dX3_foresee_2 : decode cX3_foresee 2 = .ok (.sipush 240, 3) := by decide +kernel
theorem dX3_foresee_5 : decode cX3_foresee 5 = .ok (.invokestatic 19, 3) := by decide +kernel
theorem dX3_foresee_8 : decode cX3_foresee 8 = .ok (.ifCond .ne 13, 3) := by decide +kernel
theorem dX3_foresee_11 : decode cX3_foresee 11 = .ok (.new 23, 3) := by decide +kernel
theorem dX3_foresee_14 : decode cX3_foresee 14 = .ok (.dup, 1) := by decide +kernel
theorem dX3_foresee_15 : decode cX3_foresee 15 = .ok (.ldc 123, 2) := by decide +kernel
theorem dX3_foresee_17 : decode cX3_foresee 17 = .ok (.invokespecial 27, 3) := by decide +kernel
theorem dX3_foresee_20 : decode cX3_foresee 20 = .ok (.athrow, 1) := by decide +kernel
theorem dX3_foresee_21 : decode cX3_foresee 21 = .ok (.iload_n 2, 1) := by decide +kernel
theorem dX3_foresee_22 : decode cX3_foresee 22 = .ok (.iconst 0, 1) := by decide +kernel
theorem dX3_foresee_23 : decode cX3_foresee 23 = .ok (.iconst 3, 1) := by decide +kernel
theorem dX3_foresee_24 : decode cX3_foresee 24 = .ok (.invokestatic 19, 3) := by decide +kernel
theorem dX3_foresee_27 : decode cX3_foresee 27 = .ok (.ifCond .ne 13, 3) := by decide +kernel
theorem dX3_foresee_30 : decode cX3_foresee 30 = .ok (.new 34, 3) := by decide +kernel
theorem dX3_foresee_33 : decode cX3_foresee 33 = .ok (.dup, 1) := by decide +kernel
theorem dX3_foresee_34 : decode cX3_foresee 34 = .ok (.ldc 110, 2) := by decide +kernel
theorem dX3_foresee_36 : decode cX3_foresee 36 = .ok (.invokespecial 38, 3) := by decide +kernel
theorem dX3_foresee_39 : decode cX3_foresee 39 = .ok (.athrow, 1) := by decide +kernel
theorem dX3_foresee_40 : decode cX3_foresee 40 = .ok (.aload_n 0, 1) := by decide +kernel
theorem dX3_foresee_41 : decode cX3_foresee 41 = .ok (.getfield 16, 3) := by decide +kernel
theorem dX3_foresee_44 : decode cX3_foresee 44 = .ok (.aload_n 0, 1) := by decide +kernel
theorem dX3_foresee_45 : decode cX3_foresee 45 = .ok (.getfield 10, 3) := by decide +kernel
theorem dX3_foresee_48 : decode cX3_foresee 48 = .ok (.invokevirtual 128, 3) := by decide +kernel
theorem dX3_foresee_51 : decode cX3_foresee 51 = .ok (.aload_n 0, 1) := by decide +kernel
theorem dX3_foresee_52 : decode cX3_foresee 52 = .ok (.getfield 16, 3) := by decide +kernel
theorem dX3_foresee_55 : decode cX3_foresee 55 = .ok (.iload_n 1, 1) := by decide +kernel
theorem dX3_foresee_56 : decode cX3_foresee 56 = .ok (.invokevirtual 125, 3) := by decide +kernel
theorem dX3_foresee_59 : decode cX3_foresee 59 = .ok (.istore_n 3, 1) := by decide +kernel
theorem dX3_foresee_60 : decode cX3_foresee 60 = .ok (.iload_n 2, 1) := by decide +kernel
theorem dX3_foresee_61 : decode cX3_foresee 61 = .ok (.tableswitch 45 0 2 #[27, 29, 37], 27) := by decide +kernel
theorem dX3_foresee_88 : decode cX3_foresee 88 = .ok (.iload_n 3, 1) := by decide +kernel
theorem dX3_foresee_89 : decode cX3_foresee 89 = .ok (.ireturn, 1) := by decide +kernel
theorem dX3_foresee_90 : decode cX3_foresee 90 = .ok (.aload_n 0, 1) := by decide +kernel
theorem dX3_foresee_91 : decode cX3_foresee 91 = .ok (.getfield 16, 3) := by decide +kernel
theorem dX3_foresee_94 : decode cX3_foresee 94 = .ok (.invokevirtual 135, 3) := by decide +kernel
theorem dX3_foresee_97 : decode cX3_foresee 97 = .ok (.ireturn, 1) := by decide +kernel
theorem dX3_foresee_98 : decode cX3_foresee 98 = .ok (.aload_n 0, 1) := by decide +kernel
theorem dX3_foresee_99 : decode cX3_foresee 99 = .ok (.getfield 16, 3) := by decide +kernel
theorem dX3_foresee_102 : decode cX3_foresee 102 = .ok (.invokevirtual 138, 3) := by decide +kernel
theorem dX3_foresee_105 : decode cX3_foresee 105 = .ok (.ireturn, 1) := by decide +kernel
theorem dX3_foresee_106 : decode cX3_foresee 106 = .ok (.aload_n 0, 1) := by decide +kernel
theorem dX3_foresee_107 : decode cX3_foresee 107 = .ok (.getfield 16, 3) := by decide +kernel
theorem dX3_foresee_110 : decode cX3_foresee 110 = .ok (.invokevirtual 141, 3) := by decide +kernel
theorem dX3_foresee_113 : decode cX3_foresee 113 = .ok (.ireturn, 1) := by decide +kernel
theorem dX3_share_0 : decode cX3_share 0 = .ok (.aload_n 0, 1) := by decide +kernel
theorem dX3_share_1 : decode cX3_share 1 = .ok (.getfield 10, 3) := by decide +kernel
theorem dX3_share_4 : decode cX3_share 4 = .ok (.getfield 150, 3) := by decide +kernel
theorem dX3_share_7 : decode cX3_share 7 = .ok (.ifCond .ne 5, 3) := by decide +kernel
theorem dX3_share_10 : decode cX3_share 10 = .ok (.dconst 0, 1) := by decide +kernel
theorem dX3_share_11 : decode cX3_share 11 = .ok (.dreturn, 1) := by decide +kernel
theorem dX3_share_12 : decode cX3_share 12 = .ok (.aload_n 0, 1) := by decide +kernel
theorem dX3_share_13 : decode cX3_share 13 = .ok (.getfield 10, 3) := by decide +kernel
theorem dX3_share_16 : decode cX3_share 16 = .ok (.getfield 153, 3) := by decide +kernel
theorem dX3_share_19 : decode cX3_share 19 = .ok (.i2d, 1) := by decide +kernel
theorem dX3_share_20 : decode cX3_share 20 = .ok (.aload_n 0, 1) := by decide +kernel
theorem dX3_share_21 : decode cX3_share 21 = .ok (.getfield 10, 3) := by decide +kernel
theorem dX3_share_24 : decode cX3_share 24 = .ok (.getfield 150, 3) := by decide +kernel
theorem dX3_share_27 : decode cX3_share 27 = .ok (.i2d, 1) := by decide +kernel
theorem dX3_share_28 : decode cX3_share 28 = .ok (.ddiv, 1) := by decide +kernel
theorem dX3_share_29 : decode cX3_share 29 = .ok (.dreturn, 1) := by decide +kernel
theorem dX3_isWithin_0 : decode cX3_isWithin 0 = .ok (.iload_n 0, 1) := by decide +kernel
theorem dX3_isWithin_1 : decode cX3_isWithin 1 = .ok (.iload_n 1, 1) := by decide +kernel
theorem dX3_isWithin_2 : decode cX3_isWithin 2 = .ok (.if_icmp .lt 12, 3) := by decide +kernel
theorem dX3_isWithin_5 : decode cX3_isWithin 5 = .ok (.iload_n 0, 1) := by decide +kernel
theorem dX3_isWithin_6 : decode cX3_isWithin 6 = .ok (.iload_n 2, 1) := by decide +kernel
theorem dX3_isWithin_7 : decode cX3_isWithin 7 = .ok (.if_icmp .gt 7, 3) := by decide +kernel
theorem dX3_isWithin_10 : decode cX3_isWithin 10 = .ok (.iconst 1, 1) := by decide +kernel
theorem dX3_isWithin_11 : decode cX3_isWithin 11 = .ok (.goto 4, 3) := by decide +kernel
theorem dX3_isWithin_14 : decode cX3_isWithin 14 = .ok (.iconst 0, 1) := by decide +kernel
theorem dX3_isWithin_15 : decode cX3_isWithin 15 = .ok (.ireturn, 1) := by decide +kernel

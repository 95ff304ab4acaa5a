theorem dX4_init_0 : decode cX4_init 0 = .ok (.aload_n 0, 1) := by decide +kernel
theorem dX4_init_1 : decode cX4_init 1 = .ok (.invokespecial 1, 3) := by decide +kernel
theorem dX4_init_4 : decode cX4_init 4 = .ok (.aload_n 0, 1) := by decide +kernel
theorem dX4_init_5 : decode cX4_init 5 = .ok (.bipush 20, 2) := by decide +kernel
theorem dX4_init_7 : decode cX4_init 7 = .ok (.putfield 7, 3) := by decide +kernel
theorem dX4_init_10 : decode cX4_init 10 = .ok (.aload_n 0, 1) := by decide +kernel
theorem dX4_init_11 : decode cX4_init 11 = .ok (.bipush 24, 2) := by decide +kernel
theorem dX4_init_13 : decode cX4_init 13 = .ok (.newarray .int, 2) := by decide +kernel
theorem dX4_init_15 : decode cX4_init 15 = .ok (.putfield 13, 3) := by decide +kernel
theorem dX4_init_18 : decode cX4_init 18 = .ok (.aload_n 0, 1) := by decide +kernel
theorem dX4_init_19 : decode cX4_init 19 = .ok (.bipush 12, 2) := by decide +kernel
theorem dX4_init_21 : decode cX4_init 21 = .ok (.newarray .int, 2) := by decide +kernel
theorem dX4_init_23 : decode cX4_init 23 = .ok (.putfield 17, 3) := by decide +kernel
theorem dX4_init_26 : decode cX4_init 26 = .ok (.aload_n 0, 1) := by decide +kernel
theorem dX4_init_27 : decode cX4_init 27 = .ok (.bipush 48, 2) := by decide +kernel
theorem dX4_init_29 : decode cX4_init 29 = .ok (.newarray .int, 2) := by decide +kernel
theorem dX4_init_31 : decode cX4_init 31 = .ok (.putfield 20, 3) := by decide +kernel
theorem dX4_init_34 : decode cX4_init 34 = .ok (.aload_n 0, 1) := by decide +kernel
theorem dX4_init_35 : decode cX4_init 35 = .ok (.iconst 5, 1) := by decide +kernel
theorem dX4_init_36 : decode cX4_init 36 = .ok (.newarray .int, 2) := by decide +kernel
theorem dX4_init_38 : decode cX4_init 38 = .ok (.putfield 23, 3) := by decide +kernel
theorem dX4_init_41 : decode cX4_init 41 = .ok (.return_, 1) := by decide +kernel
theorem dX4_thrown_0 : decode cX4_thrown 0 = .ok (.aload_n 0, 1) := by decide +kernel
theorem dX4_thrown_1 : decode cX4_thrown 1 = .ok (.getfield 26, 3) := by decide +kernel
theorem dX4_thrown_4 : decode cX4_thrown 4 = .ok (.ireturn, 1) := by decide +kernel
theorem dX4_fail_0 : decode cX4_fail 0 = .ok (.aload_n 0, 1) := by decide +kernel
theorem dX4_fail_1 : decode cX4_fail 1 = .ok (.iload_n 1, 1) := by decide +kernel
theorem dX4_fail_2 : decode cX4_fail 2 = .ok (.putfield 26, 3) := by decide +kernel
theorem dX4_fail_5 : decode cX4_fail 5 = .ok (.iconst 0, 1) := by decide +kernel
theorem dX4_fail_6 : decode cX4_fail 6 = .ok (.ireturn, 1) := by decide +kernel
theorem dX4_isIn_0 : decode cX4_isIn 0 = .ok (.iload_n 0, 1) := by decide +kernel
theorem dX4_isIn_1 : decode cX4_isIn 1 = .ok (.iload_n 1, 1) := by decide +kernel
theorem dX4_isIn_2 : decode cX4_isIn 2 = .ok (.if_icmp .lt 12, 3) := by decide +kernel
theorem dX4_isIn_5 : decode cX4_isIn 5 = .ok (.iload_n 0, 1) := by decide +kernel
theorem dX4_isIn_6 : decode cX4_isIn 6 = .ok (.iload_n 2, 1) := by decide +kernel
theorem dX4_isIn_7 : decode cX4_isIn 7 = .ok (.if_icmp .gt 7, 3) := by decide +kernel
theorem dX4_isIn_10 : decode cX4_isIn 10 = .ok (.iconst 1, 1) := by decide +kernel
theorem dX4_isIn_11 : decode cX4_isIn 11 = .ok (.goto 4, 3) := by decide +kernel
theorem dX4_isIn_14 : decode cX4_isIn 14 = .ok (.iconst 0, 1) := by decide +kernel
theorem dX4_isIn_15 : decode cX4_isIn 15 = .ok (.ireturn, 1) := by decide +kernel
set_option maxRecDepth 20000 in
theorem ggX4_isStore_X4_isIn : GoodIn wsX4_isStore wsX4_isIn := goodIn_r _ [5] (by decide +kernel) (by decide +kernel)
set_option maxRecDepth 20000 in
theorem gX4_isStore_X4_isIn : GoodIn wsX4_isStore (va_wsS RX4 32 yX4_isIn wsX4_isIn) := goodIn_app (goodIn_of _ (by decide +kernel)) ggX4_isStore_X4_isIn
theorem dX4_isStore_0 : decode cX4_isStore 0 = .ok (.iload_n 1, 1) := by decide +kernel
theorem dX4_isStore_1 : decode cX4_isStore 1 = .ok (.iconst 0, 1) := by decide +kernel
theorem dX4_isStore_2 : decode cX4_isStore 2 = .ok (.aload_n 0, 1) := by decide +kernel
theorem dX4_isStore_3 : decode cX4_isStore 3 = .ok (.getfield 29, 3) := by decide +kernel
theorem dX4_isStore_6 : decode cX4_isStore 6 = .ok (.iconst 1, 1) := by decide +kernel
theorem dX4_isStore_7 : decode cX4_isStore 7 = .ok (.isub, 1) := by decide +kernel
theorem dX4_isStore_8 : decode cX4_isStore 8 = .ok (.invokestatic 32, 3) := by decide +kernel
theorem dX4_isStore_11 : decode cX4_isStore 11 = .ok (.ireturn, 1) := by decide +kernel
set_option maxRecDepth 20000 in
theorem ggX4_isBaker_X4_isIn : GoodIn wsX4_isBaker wsX4_isIn := goodIn_r _ [5] (by decide +kernel) (by decide +kernel)
set_option maxRecDepth 20000 in
theorem gX4_isBaker_X4_isIn : GoodIn wsX4_isBaker (va_wsS RX4 32 yX4_isIn wsX4_isIn) := goodIn_app (goodIn_of _ (by decide +kernel)) ggX4_isBaker_X4_isIn
theorem dX4_isBaker_0 : decode cX4_isBaker 0 = .ok (.iload_n 1, 1) := by decide +kernel
theorem dX4_isBaker_1 : decode cX4_isBaker 1 = .ok (.iconst 0, 1) := by decide +kernel
theorem dX4_isBaker_2 : decode cX4_isBaker 2 = .ok (.aload_n 0, 1) := by decide +kernel
theorem dX4_isBaker_3 : decode cX4_isBaker 3 = .ok (.getfield 36, 3) := by decide +kernel
theorem dX4_isBaker_6 : decode cX4_isBaker 6 = .ok (.iconst 1, 1) := by decide +kernel
theorem dX4_isBaker_7 : decode cX4_isBaker 7 = .ok (.isub, 1) := by decide +kernel
theorem dX4_isBaker_8 : decode cX4_isBaker 8 = .ok (.invokestatic 32, 3) := by decide +kernel
theorem dX4_isBaker_11 : decode cX4_isBaker 11 = .ok (.ireturn, 1) := by decide +kernel
theorem dX4_ba_0 : decode cX4_ba 0 = .ok (.aload_n 0, 1) := by decide +kernel
theorem dX4_ba_1 : decode cX4_ba 1 = .ok (.getfield 17, 3) := by decide +kernel
theorem dX4_ba_4 : decode cX4_ba 4 = .ok (.iconst 3, 1) := by decide +kernel
theorem dX4_ba_5 : decode cX4_ba 5 = .ok (.iload_n 1, 1) := by decide +kernel
theorem dX4_ba_6 : decode cX4_ba 6 = .ok (.imul, 1) := by decide +kernel
theorem dX4_ba_7 : decode cX4_ba 7 = .ok (.iload_n 2, 1) := by decide +kernel
theorem dX4_ba_8 : decode cX4_ba 8 = .ok (.iadd, 1) := by decide +kernel
theorem dX4_ba_9 : decode cX4_ba 9 = .ok (.iaload, 1) := by decide +kernel
theorem dX4_ba_10 : decode cX4_ba 10 = .ok (.ireturn, 1) := by decide +kernel
theorem dX4_setStore_0 : decode cX4_setStore 0 = .ok (.aload_n 0, 1) := by decide +kernel
theorem dX4_setStore_1 : decode cX4_setStore 1 = .ok (.getfield 17, 3) := by decide +kernel
theorem dX4_setStore_4 : decode cX4_setStore 4 = .ok (.iconst 3, 1) := by decide +kernel
theorem dX4_setStore_5 : decode cX4_setStore 5 = .ok (.iload_n 1, 1) := by decide +kernel
theorem dX4_setStore_6 : decode cX4_setStore 6 = .ok (.imul, 1) := by decide +kernel
theorem dX4_setStore_7 : decode cX4_setStore 7 = .ok (.iload_n 2, 1) := by decide +kernel
theorem dX4_setStore_8 : decode cX4_setStore 8 = .ok (.iadd, 1) := by decide +kernel
theorem dX4_setStore_9 : decode cX4_setStore 9 = .ok (.iload_n 3, 1) := by decide +kernel
theorem dX4_setStore_10 : decode cX4_setStore 10 = .ok (.iastore, 1) := by decide +kernel
theorem dX4_setStore_11 : decode cX4_setStore 11 = .ok (.return_, 1) := by decide +kernel
theorem dX4_sh_0 : decode cX4_sh 0 = .ok (.aload_n 0, 1) := by decide +kernel
theorem dX4_sh_1 : decode cX4_sh 1 = .ok (.getfield 20, 3) := by decide +kernel
theorem dX4_sh_4 : decode cX4_sh 4 = .ok (.bipush 8, 2) := by decide +kernel
theorem dX4_sh_6 : decode cX4_sh 6 = .ok (.iload_n 1, 1) := by decide +kernel
theorem dX4_sh_7 : decode cX4_sh 7 = .ok (.imul, 1) := by decide +kernel
theorem dX4_sh_8 : decode cX4_sh 8 = .ok (.iload_n 2, 1) := by decide +kernel
theorem dX4_sh_9 : decode cX4_sh 9 = .ok (.iadd, 1) := by decide +kernel
theorem dX4_sh_10 : decode cX4_sh 10 = .ok (.iaload, 1) := by decide +kernel
theorem dX4_sh_11 : decode cX4_sh 11 = .ok (.ireturn, 1) := by decide +kernel
theorem dX4_put_0 : decode cX4_put 0 = .ok (.aload_n 0, 1) := by decide +kernel
theorem dX4_put_1 : decode cX4_put 1 = .ok (.getfield 20, 3) := by decide +kernel
theorem dX4_put_4 : decode cX4_put 4 = .ok (.bipush 8, 2) := by decide +kernel
theorem dX4_put_6 : decode cX4_put 6 = .ok (.iload_n 1, 1) := by decide +kernel
theorem dX4_put_7 : decode cX4_put 7 = .ok (.imul, 1) := by decide +kernel
theorem dX4_put_8 : decode cX4_put 8 = .ok (.iload_n 2, 1) := by decide +kernel
theorem dX4_put_9 : decode cX4_put 9 = .ok (.iadd, 1) := by decide +kernel
theorem dX4_put_10 : decode cX4_put 10 = .ok (.iload_n 3, 1) := by decide +kernel
theorem dX4_put_11 : decode cX4_put 11 = .ok (.iastore, 1) := by decide +kernel
theorem dX4_put_12 : decode cX4_put 12 = .ok (.return_, 1) := by decide +kernel
set_option maxRecDepth 20000 in
theorem ggX4_setPeople_X4_isIn : GoodIn wsX4_setPeople wsX4_isIn := goodIn_r _ [6] (by decide +kernel) (by decide +kernel)
set_option maxRecDepth 20000 in
theorem gX4_setPeople_X4_isIn : GoodIn wsX4_setPeople (va_wsS RX4 32 yX4_isIn wsX4_isIn) := goodIn_app (goodIn_of _ (by decide +kernel)) ggX4_setPeople_X4_isIn
set_option maxRecDepth 20000 in
theorem ggX4_setPeople_X4_fail : GoodIn wsX4_setPeople wsX4_fail := goodIn_r _ [10, 1, 11, 12, 13, 14, 15, 16, 17, 18] (by decide +kernel) (by decide +kernel)
set_option maxRecDepth 20000 in
theorem gX4_setPeople_X4_fail : GoodIn wsX4_setPeople (wsV RX4 39 RX4 yX4_fail wsX4_fail) := goodIn_app (goodIn_of _ (by decide +kernel)) ggX4_setPeople_X4_fail
theorem dX4_setPeople_0 : decode cX4_setPeople 0 = .ok (.aload_n 0, 1) := by decide +kernel
theorem dX4_setPeople_1 : decode cX4_setPeople 1 = .ok (.iconst 0, 1) := by decide +kernel
theorem dX4_setPeople_2 : decode cX4_setPeople 2 = .ok (.putfield 26, 3) := by decide +kernel
theorem dX4_setPeople_5 : decode cX4_setPeople 5 = .ok (.iload_n 1, 1) := by decide +kernel
theorem dX4_setPeople_6 : decode cX4_setPeople 6 = .ok (.iconst 0, 1) := by decide +kernel
theorem dX4_setPeople_7 : decode cX4_setPeople 7 = .ok (.sipush 500, 3) := by decide +kernel
theorem dX4_setPeople_10 : decode cX4_setPeople 10 = .ok (.invokestatic 32, 3) := by decide +kernel
theorem dX4_setPeople_13 : decode cX4_setPeople 13 = .ok (.ifCond .ne 9, 3) := by decide +kernel
theorem dX4_setPeople_16 : decode cX4_setPeople 16 = .ok (.aload_n 0, 1) := by decide +kernel
theorem dX4_setPeople_17 : decode cX4_setPeople 17 = .ok (.iconst 1, 1) := by decide +kernel
theorem dX4_setPeople_18 : decode cX4_setPeople 18 = .ok (.invokevirtual 39, 3) := by decide +kernel
theorem dX4_setPeople_21 : decode cX4_setPeople 21 = .ok (.ireturn, 1) := by decide +kernel
theorem dX4_setPeople_22 : decode cX4_setPeople 22 = .ok (.aload_n 0, 1) := by decide +kernel
theorem dX4_setPeople_23 : decode cX4_setPeople 23 = .ok (.getfield 7, 3) := by decide +kernel
theorem dX4_setPeople_26 : decode cX4_setPeople 26 = .ok (.istore_n 2, 1) := by decide +kernel
theorem dX4_setPeople_27 : decode cX4_setPeople 27 = .ok (.aload_n 0, 1) := by decide +kernel
theorem dX4_setPeople_28 : decode cX4_setPeople 28 = .ok (.iload_n 1, 1) := by decide +kernel
theorem dX4_setPeople_29 : decode cX4_setPeople 29 = .ok (.putfield 7, 3) := by decide +kernel
theorem dX4_setPeople_32 : decode cX4_setPeople 32 = .ok (.iload_n 2, 1) := by decide +kernel
theorem dX4_setPeople_33 : decode cX4_setPeople 33 = .ok (.ireturn, 1) := by decide +kernel
set_option maxRecDepth 20000 in
theorem ggX4_setGate_X4_isIn : GoodIn wsX4_setGate wsX4_isIn := goodIn_r _ [6] (by decide +kernel) (by decide +kernel)
set_option maxRecDepth 20000 in
theorem gX4_setGate_X4_isIn : GoodIn wsX4_setGate (va_wsS RX4 32 yX4_isIn wsX4_isIn) := goodIn_app (goodIn_of _ (by decide +kernel)) ggX4_setGate_X4_isIn
set_option maxRecDepth 20000 in
theorem ggX4_setGate_X4_fail : GoodIn wsX4_setGate wsX4_fail := goodIn_r _ [10, 1, 11, 12, 13, 14, 15, 16, 17, 18] (by decide +kernel) (by decide +kernel)
set_option maxRecDepth 20000 in
theorem gX4_setGate_X4_fail : GoodIn wsX4_setGate (wsV RX4 39 RX4 yX4_fail wsX4_fail) := goodIn_app (goodIn_of _ (by decide +kernel)) ggX4_setGate_X4_fail
theorem dX4_setGate_0 : decode cX4_setGate 0 = .ok (.aload_n 0, 1) := by decide +kernel
theorem dX4_setGate_1 : decode cX4_setGate 1 = .ok (.iconst 0, 1) := by decide +kernel
theorem dX4_setGate_2 : decode cX4_setGate 2 = .ok (.putfield 26, 3) := by decide +kernel
theorem dX4_setGate_5 : decode cX4_setGate 5 = .ok (.iload_n 1, 1) := by decide +kernel
theorem dX4_setGate_6 : decode cX4_setGate 6 = .ok (.iconst 0, 1) := by decide +kernel
theorem dX4_setGate_7 : decode cX4_setGate 7 = .ok (.bipush 23, 2) := by decide +kernel
theorem dX4_setGate_9 : decode cX4_setGate 9 = .ok (.invokestatic 32, 3) := by decide +kernel
theorem dX4_setGate_12 : decode cX4_setGate 12 = .ok (.ifCond .ne 9, 3) := by decide +kernel
theorem dX4_setGate_15 : decode cX4_setGate 15 = .ok (.aload_n 0, 1) := by decide +kernel
theorem dX4_setGate_16 : decode cX4_setGate 16 = .ok (.iconst 1, 1) := by decide +kernel
theorem dX4_setGate_17 : decode cX4_setGate 17 = .ok (.invokevirtual 39, 3) := by decide +kernel
theorem dX4_setGate_20 : decode cX4_setGate 20 = .ok (.ireturn, 1) := by decide +kernel
theorem dX4_setGate_21 : decode cX4_setGate 21 = .ok (.iload_n 2, 1) := by decide +kernel
theorem dX4_setGate_22 : decode cX4_setGate 22 = .ok (.iconst 0, 1) := by decide +kernel
theorem dX4_setGate_23 : decode cX4_setGate 23 = .ok (.bipush 99, 2) := by decide +kernel
theorem dX4_setGate_25 : decode cX4_setGate 25 = .ok (.invokestatic 32, 3) := by decide +kernel
theorem dX4_setGate_28 : decode cX4_setGate 28 = .ok (.ifCond .ne 9, 3) := by decide +kernel
theorem dX4_setGate_31 : decode cX4_setGate 31 = .ok (.aload_n 0, 1) := by decide +kernel
theorem dX4_setGate_32 : decode cX4_setGate 32 = .ok (.iconst 2, 1) := by decide +kernel
theorem dX4_setGate_33 : decode cX4_setGate 33 = .ok (.invokevirtual 39, 3) := by decide +kernel
theorem dX4_setGate_36 : decode cX4_setGate 36 = .ok (.ireturn, 1) := by decide +kernel
theorem dX4_setGate_37 : decode cX4_setGate 37 = .ok (.aload_n 0, 1) := by decide +kernel
theorem dX4_setGate_38 : decode cX4_setGate 38 = .ok (.getfield 13, 3) := by decide +kernel
theorem dX4_setGate_41 : decode cX4_setGate 41 = .ok (.iload_n 1, 1) := by decide +kernel
theorem dX4_setGate_42 : decode cX4_setGate 42 = .ok (.iaload, 1) := by decide +kernel
theorem dX4_setGate_43 : decode cX4_setGate 43 = .ok (.istore_n 3, 1) := by decide +kernel
theorem dX4_setGate_44 : decode cX4_setGate 44 = .ok (.aload_n 0, 1) := by decide +kernel
theorem dX4_setGate_45 : decode cX4_setGate 45 = .ok (.getfield 13, 3) := by decide +kernel
theorem dX4_setGate_48 : decode cX4_setGate 48 = .ok (.iload_n 1, 1) := by decide +kernel
theorem dX4_setGate_49 : decode cX4_setGate 49 = .ok (.iload_n 2, 1) := by decide +kernel
theorem dX4_setGate_50 : decode cX4_setGate 50 = .ok (.iastore, 1) := by decide +kernel
theorem dX4_setGate_51 : decode cX4_setGate 51 = .ok (.iload_n 3, 1) := by decide +kernel
theorem dX4_setGate_52 : decode cX4_setGate 52 = .ok (.ireturn, 1) := by decide +kernel
set_option maxRecDepth 20000 in
theorem ggX4_open_X4_isIn : GoodIn wsX4_open wsX4_isIn := goodIn_r _ [12] (by decide +kernel) (by decide +kernel)
set_option maxRecDepth 20000 in
theorem gX4_open_X4_isIn : GoodIn wsX4_open (va_wsS RX4 32 yX4_isIn wsX4_isIn) := goodIn_app (goodIn_of _ (by decide +kernel)) ggX4_open_X4_isIn
set_option maxRecDepth 20000 in
theorem ggX4_open_X4_fail : GoodIn wsX4_open wsX4_fail := goodIn_r _ [16, 1, 17, 18, 19, 20, 21, 22, 23, 24] (by decide +kernel) (by decide +kernel)
set_option maxRecDepth 20000 in
theorem gX4_open_X4_fail : GoodIn wsX4_open (wsV RX4 39 RX4 yX4_fail wsX4_fail) := goodIn_app (goodIn_of _ (by decide +kernel)) ggX4_open_X4_fail
theorem dX4_open_0 : decode cX4_open 0 = .ok (.aload_n 0, 1) := by decide +kernel
theorem dX4_open_1 : decode cX4_open 1 = .ok (.iconst 0, 1) := by decide +kernel
theorem dX4_open_2 : decode cX4_open 2 = .ok (.putfield 26, 3) := by decide +kernel
theorem dX4_open_5 : decode cX4_open 5 = .ok (.iload_n 1, 1) := by decide +kernel
theorem dX4_open_6 : decode cX4_open 6 = .ok (.iconst 0, 1) := by decide +kernel
theorem dX4_open_7 : decode cX4_open 7 = .ok (.sipush 900, 3) := by decide +kernel
theorem dX4_open_10 : decode cX4_open 10 = .ok (.invokestatic 32, 3) := by decide +kernel
theorem dX4_open_13 : decode cX4_open 13 = .ok (.ifCond .eq 13, 3) := by decide +kernel
theorem dX4_open_16 : decode cX4_open 16 = .ok (.iload_n 2, 1) := by decide +kernel
theorem dX4_open_17 : decode cX4_open 17 = .ok (.iconst 0, 1) := by decide +kernel
theorem dX4_open_18 : decode cX4_open 18 = .ok (.bipush 50, 2) := by decide +kernel
theorem dX4_open_20 : decode cX4_open 20 = .ok (.invokestatic 32, 3) := by decide +kernel
theorem dX4_open_23 : decode cX4_open 23 = .ok (.ifCond .ne 9, 3) := by decide +kernel
theorem dX4_open_26 : decode cX4_open 26 = .ok (.aload_n 0, 1) := by decide +kernel
theorem dX4_open_27 : decode cX4_open 27 = .ok (.iconst 1, 1) := by decide +kernel
theorem dX4_open_28 : decode cX4_open 28 = .ok (.invokevirtual 39, 3) := by decide +kernel
theorem dX4_open_31 : decode cX4_open 31 = .ok (.ireturn, 1) := by decide +kernel
theorem dX4_open_32 : decode cX4_open 32 = .ok (.aload_n 0, 1) := by decide +kernel
theorem dX4_open_33 : decode cX4_open 33 = .ok (.getfield 29, 3) := by decide +kernel
theorem dX4_open_36 : decode cX4_open 36 = .ok (.iconst 4, 1) := by decide +kernel
theorem dX4_open_37 : decode cX4_open 37 = .ok (.if_icmp .ne 9, 3) := by decide +kernel
theorem dX4_open_40 : decode cX4_open 40 = .ok (.aload_n 0, 1) := by decide +kernel
theorem dX4_open_41 : decode cX4_open 41 = .ok (.iconst 2, 1) := by decide +kernel
theorem dX4_open_42 : decode cX4_open 42 = .ok (.invokevirtual 39, 3) := by decide +kernel
theorem dX4_open_45 : decode cX4_open 45 = .ok (.ireturn, 1) := by decide +kernel
theorem dX4_open_46 : decode cX4_open 46 = .ok (.iconst 3, 1) := by decide +kernel
theorem dX4_open_47 : decode cX4_open 47 = .ok (.newarray .int, 2) := by decide +kernel
theorem dX4_open_49 : decode cX4_open 49 = .ok (.dup, 1) := by decide +kernel
theorem dX4_open_50 : decode cX4_open 50 = .ok (.iconst 0, 1) := by decide +kernel
theorem dX4_open_51 : decode cX4_open 51 = .ok (.iload_n 1, 1) := by decide +kernel
theorem dX4_open_52 : decode cX4_open 52 = .ok (.iastore, 1) := by decide +kernel
theorem dX4_open_53 : decode cX4_open 53 = .ok (.dup, 1) := by decide +kernel
theorem dX4_open_54 : decode cX4_open 54 = .ok (.iconst 1, 1) := by decide +kernel
theorem dX4_open_55 : decode cX4_open 55 = .ok (.iload_n 2, 1) := by decide +kernel
theorem dX4_open_56 : decode cX4_open 56 = .ok (.iastore, 1) := by decide +kernel
theorem dX4_open_57 : decode cX4_open 57 = .ok (.dup, 1) := by decide +kernel
theorem dX4_open_58 : decode cX4_open 58 = .ok (.iconst 2, 1) := by decide +kernel
theorem dX4_open_59 : decode cX4_open 59 = .ok (.iconst 0, 1) := by decide +kernel
theorem dX4_open_60 : decode cX4_open 60 = .ok (.iastore, 1) := by decide +kernel
theorem dX4_open_61 : decode cX4_open 61 = .ok (.astore_n 3, 1) := by decide +kernel
theorem dX4_open_62 : decode cX4_open 62 = .ok (.aload_n 3, 1) := by decide +kernel
theorem dX4_open_63 : decode cX4_open 63 = .ok (.iconst 0, 1) := by decide +kernel
theorem dX4_open_64 : decode cX4_open 64 = .ok (.aload_n 0, 1) := by decide +kernel
theorem dX4_open_65 : decode cX4_open 65 = .ok (.getfield 17, 3) := by decide +kernel
theorem dX4_open_68 : decode cX4_open 68 = .ok (.iconst 3, 1) := by decide +kernel
theorem dX4_open_69 : decode cX4_open 69 = .ok (.aload_n 0, 1) := by decide +kernel
theorem dX4_open_70 : decode cX4_open 70 = .ok (.getfield 29, 3) := by decide +kernel
theorem dX4_open_73 : decode cX4_open 73 = .ok (.imul, 1) := by decide +kernel
theorem dX4_open_74 : decode cX4_open 74 = .ok (.iconst 3, 1) := by decide +kernel
theorem dX4_open_75 : decode cX4_open 75 = .ok (.invokestatic 43, 3) := by decide +kernel
theorem dX4_open_78 : decode cX4_open 78 = .ok (.aload_n 0, 1) := by decide +kernel
theorem dX4_open_79 : decode cX4_open 79 = .ok (.dup, 1) := by decide +kernel
theorem dX4_open_80 : decode cX4_open 80 = .ok (.getfield 29, 3) := by decide +kernel
theorem dX4_open_83 : decode cX4_open 83 = .ok (.iconst 1, 1) := by decide +kernel
theorem dX4_open_84 : decode cX4_open 84 = .ok (.iadd, 1) := by decide +kernel
theorem dX4_open_85 : decode cX4_open 85 = .ok (.putfield 29, 3) := by decide +kernel
theorem dX4_open_88 : decode cX4_open 88 = .ok (.aload_n 0, 1) := by decide +kernel
theorem dX4_open_89 : decode cX4_open 89 = .ok (.getfield 29, 3) := by decide +kernel
theorem dX4_open_92 : decode cX4_open 92 = .ok (.iconst 1, 1) := by decide +kernel
theorem dX4_open_93 : decode cX4_open 93 = .ok (.isub, 1) := by decide +kernel
theorem dX4_open_94 : decode cX4_open 94 = .ok (.ireturn, 1) := by decide +kernel
set_option maxRecDepth 20000 in
theorem ggX4_smoke_X4_isStore : GoodIn wsX4_smoke wsX4_isStore := goodIn_r _ [6, 7, 8, 9, 5, 10, 24, 25, 26, 27, 28, 29, 30, 31] (by decide +kernel) (by decide +kernel)
set_option maxRecDepth 20000 in
theorem gX4_smoke_X4_isStore : GoodIn wsX4_smoke (wsV RX4 49 RX4 yX4_isStore wsX4_isStore) := goodIn_app (goodIn_of _ (by decide +kernel)) ggX4_smoke_X4_isStore
set_option maxRecDepth 20000 in
theorem ggX4_smoke_X4_fail : GoodIn wsX4_smoke wsX4_fail := goodIn_r _ [14, 1, 24, 25, 26, 27, 28, 29, 30, 31] (by decide +kernel) (by decide +kernel)
set_option maxRecDepth 20000 in
theorem gX4_smoke_X4_fail : GoodIn wsX4_smoke (wsV RX4 39 RX4 yX4_fail wsX4_fail) := goodIn_app (goodIn_of _ (by decide +kernel)) ggX4_smoke_X4_fail
set_option maxRecDepth 20000 in
theorem ggX4_smoke_X4_ba : GoodIn wsX4_smoke wsX4_ba := goodIn_r _ [18, 19, 24, 25, 26, 27, 28, 29, 30, 31] (by decide +kernel) (by decide +kernel)
set_option maxRecDepth 20000 in
theorem gX4_smoke_X4_ba : GoodIn wsX4_smoke (wsV RX4 53 RX4 yX4_ba wsX4_ba) := goodIn_app (goodIn_of _ (by decide +kernel)) ggX4_smoke_X4_ba
set_option maxRecDepth 20000 in
theorem ggX4_smoke_X4_setStore : GoodIn wsX4_smoke wsX4_setStore := goodIn_r _ [23, 19, 24, 25, 26, 27, 28, 29, 30, 31] (by decide +kernel) (by decide +kernel)
set_option maxRecDepth 20000 in
theorem gX4_smoke_X4_setStore : GoodIn wsX4_smoke (wsV RX4 57 RX4 yX4_setStore wsX4_setStore) := goodIn_app (goodIn_of _ (by decide +kernel)) ggX4_smoke_X4_setStore
theorem dX4_smoke_0 : decode cX4_smoke 0 = .ok (.aload_n 0, 1) := by decide +kernel
theorem dX4_smoke_1 : decode cX4_smoke 1 = .ok (.iconst 0, 1) := by decide +kernel
theorem dX4_smoke_2 : decode cX4_smoke 2 = .ok (.putfield 26, 3) := by decide +kernel
theorem dX4_smoke_5 : decode cX4_smoke 5 = .ok (.aload_n 0, 1) := by decide +kernel
theorem dX4_smoke_6 : decode cX4_smoke 6 = .ok (.iload_n 1, 1) := by decide +kernel
theorem dX4_smoke_7 : decode cX4_smoke 7 = .ok (.invokevirtual 49, 3) := by decide +kernel
theorem dX4_smoke_10 : decode cX4_smoke 10 = .ok (.ifCond .ne 9, 3) := by decide +kernel
theorem dX4_smoke_13 : decode cX4_smoke 13 = .ok (.aload_n 0, 1) := by decide +kernel
theorem dX4_smoke_14 : decode cX4_smoke 14 = .ok (.iconst 1, 1) := by decide +kernel
theorem dX4_smoke_15 : decode cX4_smoke 15 = .ok (.invokevirtual 39, 3) := by decide +kernel
theorem dX4_smoke_18 : decode cX4_smoke 18 = .ok (.ireturn, 1) := by decide +kernel
theorem dX4_smoke_19 : decode cX4_smoke 19 = .ok (.aload_n 0, 1) := by decide +kernel
theorem dX4_smoke_20 : decode cX4_smoke 20 = .ok (.iload_n 1, 1) := by decide +kernel
theorem dX4_smoke_21 : decode cX4_smoke 21 = .ok (.iconst 1, 1) := by decide +kernel
theorem dX4_smoke_22 : decode cX4_smoke 22 = .ok (.invokevirtual 53, 3) := by decide +kernel
theorem dX4_smoke_25 : decode cX4_smoke 25 = .ok (.istore_n 2, 1) := by decide +kernel
theorem dX4_smoke_26 : decode cX4_smoke 26 = .ok (.aload_n 0, 1) := by decide +kernel
theorem dX4_smoke_27 : decode cX4_smoke 27 = .ok (.iload_n 1, 1) := by decide +kernel
theorem dX4_smoke_28 : decode cX4_smoke 28 = .ok (.iconst 1, 1) := by decide +kernel
theorem dX4_smoke_29 : decode cX4_smoke 29 = .ok (.iconst 0, 1) := by decide +kernel
theorem dX4_smoke_30 : decode cX4_smoke 30 = .ok (.invokevirtual 57, 3) := by decide +kernel
theorem dX4_smoke_33 : decode cX4_smoke 33 = .ok (.aload_n 0, 1) := by decide +kernel
theorem dX4_smoke_34 : decode cX4_smoke 34 = .ok (.iload_n 1, 1) := by decide +kernel
theorem dX4_smoke_35 : decode cX4_smoke 35 = .ok (.iconst 0, 1) := by decide +kernel
theorem dX4_smoke_36 : decode cX4_smoke 36 = .ok (.aload_n 0, 1) := by decide +kernel
theorem dX4_smoke_37 : decode cX4_smoke 37 = .ok (.iload_n 1, 1) := by decide +kernel
theorem dX4_smoke_38 : decode cX4_smoke 38 = .ok (.iconst 0, 1) := by decide +kernel
theorem dX4_smoke_39 : decode cX4_smoke 39 = .ok (.invokevirtual 53, 3) := by decide +kernel
theorem dX4_smoke_42 : decode cX4_smoke 42 = .ok (.aload_n 0, 1) := by decide +kernel
theorem dX4_smoke_43 : decode cX4_smoke 43 = .ok (.iload_n 1, 1) := by decide +kernel
theorem dX4_smoke_44 : decode cX4_smoke 44 = .ok (.iconst 0, 1) := by decide +kernel
theorem dX4_smoke_45 : decode cX4_smoke 45 = .ok (.invokevirtual 53, 3) := by decide +kernel
theorem dX4_smoke_48 : decode cX4_smoke 48 = .ok (.bipush 10, 2) := by decide +kernel
theorem dX4_smoke_50 : decode cX4_smoke 50 = .ok (.idiv, 1) := by decide +kernel
theorem dX4_smoke_51 : decode cX4_smoke 51 = .ok (.isub, 1) := by decide +kernel
theorem dX4_smoke_52 : decode cX4_smoke 52 = .ok (.invokevirtual 57, 3) := by decide +kernel
theorem dX4_smoke_55 : decode cX4_smoke 55 = .ok (.iload_n 2, 1) := by decide +kernel
theorem dX4_smoke_56 : decode cX4_smoke 56 = .ok (.ireturn, 1) := by decide +kernel
set_option maxRecDepth 20000 in
theorem ggX4_owner_X4_sh : GoodIn wsX4_owner wsX4_sh := goodIn_r _ [6, 7, 8, 9, 10, 11, 12, 13, 14, 15] (by decide +kernel) (by decide +kernel)
set_option maxRecDepth 20000 in
theorem gX4_owner_X4_sh : GoodIn wsX4_owner (wsV RX4 61 RX4 yX4_sh wsX4_sh) := goodIn_app (goodIn_of _ (by decide +kernel)) ggX4_owner_X4_sh
theorem dX4_owner_0 : decode cX4_owner 0 = .ok (.iconst 0, 1) := by decide +kernel
theorem dX4_owner_1 : decode cX4_owner 1 = .ok (.istore_n 2, 1) := by decide +kernel
theorem dX4_owner_2 : decode cX4_owner 2 = .ok (.iload_n 2, 1) := by decide +kernel
theorem dX4_owner_3 : decode cX4_owner 3 = .ok (.aload_n 0, 1) := by decide +kernel
theorem dX4_owner_4 : decode cX4_owner 4 = .ok (.getfield 36, 3) := by decide +kernel
theorem dX4_owner_7 : decode cX4_owner 7 = .ok (.if_icmp .ge 21, 3) := by decide +kernel
theorem dX4_owner_10 : decode cX4_owner 10 = .ok (.aload_n 0, 1) := by decide +kernel
theorem dX4_owner_11 : decode cX4_owner 11 = .ok (.iload_n 2, 1) := by decide +kernel
theorem dX4_owner_12 : decode cX4_owner 12 = .ok (.iconst 1, 1) := by decide +kernel
theorem dX4_owner_13 : decode cX4_owner 13 = .ok (.invokevirtual 61, 3) := by decide +kernel
theorem dX4_owner_16 : decode cX4_owner 16 = .ok (.iload_n 1, 1) := by decide +kernel
theorem dX4_owner_17 : decode cX4_owner 17 = .ok (.if_icmp .ne 5, 3) := by decide +kernel
theorem dX4_owner_20 : decode cX4_owner 20 = .ok (.iload_n 2, 1) := by decide +kernel
theorem dX4_owner_21 : decode cX4_owner 21 = .ok (.ireturn, 1) := by decide +kernel
theorem dX4_owner_22 : decode cX4_owner 22 = .ok (.iinc 2 1, 3) := by decide +kernel
theorem dX4_owner_25 : decode cX4_owner 25 = .ok (.goto (-23), 3) := by decide +kernel
theorem dX4_owner_28 : decode cX4_owner 28 = .ok (.iconst (-1), 1) := by decide +kernel
theorem dX4_owner_29 : decode cX4_owner 29 = .ok (.ireturn, 1) := by decide +kernel
set_option maxRecDepth 20000 in
theorem ggX4_swear_X4_isStore : GoodIn wsX4_swear wsX4_isStore := goodIn_r _ [13, 14, 15, 16, 12, 17, 30, 31, 32, 33, 34, 35, 36, 37] (by decide +kernel) (by decide +kernel)
set_option maxRecDepth 20000 in
theorem gX4_swear_X4_isStore : GoodIn wsX4_swear (wsV RX4 49 RX4 yX4_isStore wsX4_isStore) := goodIn_app (goodIn_of _ (by decide +kernel)) ggX4_swear_X4_isStore
set_option maxRecDepth 20000 in
theorem ggX4_swear_X4_fail : GoodIn wsX4_swear wsX4_fail := goodIn_r _ [21, 1, 30, 31, 32, 33, 34, 35, 36, 37] (by decide +kernel) (by decide +kernel)
set_option maxRecDepth 20000 in
theorem gX4_swear_X4_fail : GoodIn wsX4_swear (wsV RX4 39 RX4 yX4_fail wsX4_fail) := goodIn_app (goodIn_of _ (by decide +kernel)) ggX4_swear_X4_fail
set_option maxRecDepth 20000 in
theorem ggX4_swear_X4_isIn : GoodIn wsX4_swear wsX4_isIn := goodIn_r _ [17] (by decide +kernel) (by decide +kernel)
set_option maxRecDepth 20000 in
theorem gX4_swear_X4_isIn : GoodIn wsX4_swear (va_wsS RX4 32 yX4_isIn wsX4_isIn) := goodIn_app (goodIn_of _ (by decide +kernel)) ggX4_swear_X4_isIn
set_option maxRecDepth 20000 in
theorem ggX4_swear_X4_owner : GoodIn wsX4_swear wsX4_owner := goodIn_r _ [25, 2, 26, 27, 28, 12, 29, 4, 30, 31, 32, 33, 34, 35, 36, 37] (by decide +kernel) (by decide +kernel)
set_option maxRecDepth 20000 in
theorem gX4_swear_X4_owner : GoodIn wsX4_swear (wsV RX4 64 RX4 yX4_owner wsX4_owner) := goodIn_app (goodIn_of _ (by decide +kernel)) ggX4_swear_X4_owner
theorem dX4_swear_0 : decode cX4_swear 0 = .ok (.aload_n 0, 1) := by decide +kernel
theorem dX4_swear_1 : decode cX4_swear 1 = .ok (.iconst 0, 1) := by decide +kernel
theorem dX4_swear_2 : decode cX4_swear 2 = .ok (.putfield 26, 3) := by decide +kernel
theorem dX4_swear_5 : decode cX4_swear 5 = .ok (.aload_n 0, 1) := by decide +kernel
theorem dX4_swear_6 : decode cX4_swear 6 = .ok (.iload_n 1, 1) := by decide +kernel
theorem dX4_swear_7 : decode cX4_swear 7 = .ok (.invokevirtual 49, 3) := by decide +kernel
theorem dX4_swear_10 : decode cX4_swear 10 = .ok (.ifCond .ne 9, 3) := by decide +kernel
theorem dX4_swear_13 : decode cX4_swear 13 = .ok (.aload_n 0, 1) := by decide +kernel
theorem dX4_swear_14 : decode cX4_swear 14 = .ok (.iconst 1, 1) := by decide +kernel
theorem dX4_swear_15 : decode cX4_swear 15 = .ok (.invokevirtual 39, 3) := by decide +kernel
theorem dX4_swear_18 : decode cX4_swear 18 = .ok (.ireturn, 1) := by decide +kernel
theorem dX4_swear_19 : decode cX4_swear 19 = .ok (.iload_n 2, 1) := by decide +kernel
theorem dX4_swear_20 : decode cX4_swear 20 = .ok (.iconst 0, 1) := by decide +kernel
theorem dX4_swear_21 : decode cX4_swear 21 = .ok (.bipush 25, 2) := by decide +kernel
theorem dX4_swear_23 : decode cX4_swear 23 = .ok (.invokestatic 32, 3) := by decide +kernel
theorem dX4_swear_26 : decode cX4_swear 26 = .ok (.ifCond .eq 24, 3) := by decide +kernel
theorem dX4_swear_29 : decode cX4_swear 29 = .ok (.iload_n 3, 1) := by decide +kernel
theorem dX4_swear_30 : decode cX4_swear 30 = .ok (.iconst 5, 1) := by decide +kernel
theorem dX4_swear_31 : decode cX4_swear 31 = .ok (.bipush 12, 2) := by decide +kernel
theorem dX4_swear_33 : decode cX4_swear 33 = .ok (.invokestatic 32, 3) := by decide +kernel
theorem dX4_swear_36 : decode cX4_swear 36 = .ok (.ifCond .eq 14, 3) := by decide +kernel
theorem dX4_swear_39 : decode cX4_swear 39 = .ok (.iload 4, 2) := by decide +kernel
theorem dX4_swear_41 : decode cX4_swear 41 = .ok (.iconst 0, 1) := by decide +kernel
theorem dX4_swear_42 : decode cX4_swear 42 = .ok (.bipush 90, 2) := by decide +kernel
theorem dX4_swear_44 : decode cX4_swear 44 = .ok (.invokestatic 32, 3) := by decide +kernel
theorem dX4_swear_47 : decode cX4_swear 47 = .ok (.ifCond .ne 9, 3) := by decide +kernel
theorem dX4_swear_50 : decode cX4_swear 50 = .ok (.aload_n 0, 1) := by decide +kernel
theorem dX4_swear_51 : decode cX4_swear 51 = .ok (.iconst 2, 1) := by decide +kernel
theorem dX4_swear_52 : decode cX4_swear 52 = .ok (.invokevirtual 39, 3) := by decide +kernel
theorem dX4_swear_55 : decode cX4_swear 55 = .ok (.ireturn, 1) := by decide +kernel
theorem dX4_swear_56 : decode cX4_swear 56 = .ok (.aload_n 0, 1) := by decide +kernel
theorem dX4_swear_57 : decode cX4_swear 57 = .ok (.getfield 36, 3) := by decide +kernel
theorem dX4_swear_60 : decode cX4_swear 60 = .ok (.bipush 6, 2) := by decide +kernel
theorem dX4_swear_62 : decode cX4_swear 62 = .ok (.if_icmp .eq 12, 3) := by decide +kernel
theorem dX4_swear_65 : decode cX4_swear 65 = .ok (.aload_n 0, 1) := by decide +kernel
theorem dX4_swear_66 : decode cX4_swear 66 = .ok (.iload_n 2, 1) := by decide +kernel
theorem dX4_swear_67 : decode cX4_swear 67 = .ok (.invokevirtual 64, 3) := by decide +kernel
theorem dX4_swear_70 : decode cX4_swear 70 = .ok (.iconst (-1), 1) := by decide +kernel
theorem dX4_swear_71 : decode cX4_swear 71 = .ok (.if_icmp .eq 9, 3) := by decide +kernel
theorem dX4_swear_74 : decode cX4_swear 74 = .ok (.aload_n 0, 1) := by decide +kernel
theorem dX4_swear_75 : decode cX4_swear 75 = .ok (.iconst 3, 1) := by decide +kernel
theorem dX4_swear_76 : decode cX4_swear 76 = .ok (.invokevirtual 39, 3) := by decide +kernel
theorem dX4_swear_79 : decode cX4_swear 79 = .ok (.ireturn, 1) := by decide +kernel
theorem dX4_swear_80 : decode cX4_swear 80 = .ok (.bipush 8, 2) := by decide +kernel
theorem dX4_swear_82 : decode cX4_swear 82 = .ok (.newarray .int, 2) := by decide +kernel
theorem dX4_swear_84 : decode cX4_swear 84 = .ok (.dup, 1) := by decide +kernel
theorem dX4_swear_85 : decode cX4_swear 85 = .ok (.iconst 0, 1) := by decide +kernel
theorem dX4_swear_86 : decode cX4_swear 86 = .ok (.iload_n 1, 1) := by decide +kernel
theorem dX4_swear_87 : decode cX4_swear 87 = .ok (.iastore, 1) := by decide +kernel
theorem dX4_swear_88 : decode cX4_swear 88 = .ok (.dup, 1) := by decide +kernel
theorem dX4_swear_89 : decode cX4_swear 89 = .ok (.iconst 1, 1) := by decide +kernel
theorem dX4_swear_90 : decode cX4_swear 90 = .ok (.iload_n 2, 1) := by decide +kernel
theorem dX4_swear_91 : decode cX4_swear 91 = .ok (.iastore, 1) := by decide +kernel
theorem dX4_swear_92 : decode cX4_swear 92 = .ok (.dup, 1) := by decide +kernel
theorem dX4_swear_93 : decode cX4_swear 93 = .ok (.iconst 2, 1) := by decide +kernel
theorem dX4_swear_94 : decode cX4_swear 94 = .ok (.iload 4, 2) := by decide +kernel
theorem dX4_swear_96 : decode cX4_swear 96 = .ok (.iastore, 1) := by decide +kernel
theorem dX4_swear_97 : decode cX4_swear 97 = .ok (.dup, 1) := by decide +kernel
theorem dX4_swear_98 : decode cX4_swear 98 = .ok (.iconst 3, 1) := by decide +kernel
theorem dX4_swear_99 : decode cX4_swear 99 = .ok (.iconst 0, 1) := by decide +kernel
theorem dX4_swear_100 : decode cX4_swear 100 = .ok (.iastore, 1) := by decide +kernel
theorem dX4_swear_101 : decode cX4_swear 101 = .ok (.dup, 1) := by decide +kernel
theorem dX4_swear_102 : decode cX4_swear 102 = .ok (.iconst 4, 1) := by decide +kernel
theorem dX4_swear_103 : decode cX4_swear 103 = .ok (.iload_n 3, 1) := by decide +kernel
theorem dX4_swear_104 : decode cX4_swear 104 = .ok (.iastore, 1) := by decide +kernel
theorem dX4_swear_105 : decode cX4_swear 105 = .ok (.dup, 1) := by decide +kernel
theorem dX4_swear_106 : decode cX4_swear 106 = .ok (.iconst 5, 1) := by decide +kernel
theorem dX4_swear_107 : decode cX4_swear 107 = .ok (.iconst 0, 1) := by decide +kernel
theorem dX4_swear_108 : decode cX4_swear 108 = .ok (.iastore, 1) := by decide +kernel
theorem dX4_swear_109 : decode cX4_swear 109 = .ok (.dup, 1) := by decide +kernel
theorem dX4_swear_110 : decode cX4_swear 110 = .ok (.bipush 6, 2) := by decide +kernel
theorem dX4_swear_112 : decode cX4_swear 112 = .ok (.iconst 0, 1) := by decide +kernel
theorem dX4_swear_113 : decode cX4_swear 113 = .ok (.iastore, 1) := by decide +kernel
theorem dX4_swear_114 : decode cX4_swear 114 = .ok (.dup, 1) := by decide +kernel
theorem dX4_swear_115 : decode cX4_swear 115 = .ok (.bipush 7, 2) := by decide +kernel
theorem dX4_swear_117 : decode cX4_swear 117 = .ok (.iconst 0, 1) := by decide +kernel
theorem dX4_swear_118 : decode cX4_swear 118 = .ok (.iastore, 1) := by decide +kernel
theorem dX4_swear_119 : decode cX4_swear 119 = .ok (.astore 5, 2) := by decide +kernel
theorem dX4_swear_121 : decode cX4_swear 121 = .ok (.aload 5, 2) := by decide +kernel
theorem dX4_swear_123 : decode cX4_swear 123 = .ok (.iconst 0, 1) := by decide +kernel
theorem dX4_swear_124 : decode cX4_swear 124 = .ok (.aload_n 0, 1) := by decide +kernel
theorem dX4_swear_125 : decode cX4_swear 125 = .ok (.getfield 20, 3) := by decide +kernel
theorem dX4_swear_128 : decode cX4_swear 128 = .ok (.bipush 8, 2) := by decide +kernel
theorem dX4_swear_130 : decode cX4_swear 130 = .ok (.aload_n 0, 1) := by decide +kernel
theorem dX4_swear_131 : decode cX4_swear 131 = .ok (.getfield 36, 3) := by decide +kernel
theorem dX4_swear_134 : decode cX4_swear 134 = .ok (.imul, 1) := by decide +kernel
theorem dX4_swear_135 : decode cX4_swear 135 = .ok (.bipush 8, 2) := by decide +kernel
theorem dX4_swear_137 : decode cX4_swear 137 = .ok (.invokestatic 43, 3) := by decide +kernel
theorem dX4_swear_140 : decode cX4_swear 140 = .ok (.aload_n 0, 1) := by decide +kernel
theorem dX4_swear_141 : decode cX4_swear 141 = .ok (.dup, 1) := by decide +kernel
theorem dX4_swear_142 : decode cX4_swear 142 = .ok (.getfield 36, 3) := by decide +kernel
theorem dX4_swear_145 : decode cX4_swear 145 = .ok (.iconst 1, 1) := by decide +kernel
theorem dX4_swear_146 : decode cX4_swear 146 = .ok (.iadd, 1) := by decide +kernel
theorem dX4_swear_147 : decode cX4_swear 147 = .ok (.putfield 36, 3) := by decide +kernel
theorem dX4_swear_150 : decode cX4_swear 150 = .ok (.aload_n 0, 1) := by decide +kernel
theorem dX4_swear_151 : decode cX4_swear 151 = .ok (.getfield 36, 3) := by decide +kernel
theorem dX4_swear_154 : decode cX4_swear 154 = .ok (.iconst 1, 1) := by decide +kernel
theorem dX4_swear_155 : decode cX4_swear 155 = .ok (.isub, 1) := by decide +kernel
theorem dX4_swear_156 : decode cX4_swear 156 = .ok (.ireturn, 1) := by decide +kernel
set_option maxRecDepth 20000 in
theorem ggX4_deal_X4_isBaker : GoodIn wsX4_deal wsX4_isBaker := goodIn_r _ [6, 7, 8, 9, 5, 10, 24, 25, 26, 27, 28, 29, 30, 31] (by decide +kernel) (by decide +kernel)
set_option maxRecDepth 20000 in
theorem gX4_deal_X4_isBaker : GoodIn wsX4_deal (wsV RX4 67 RX4 yX4_isBaker wsX4_isBaker) := goodIn_app (goodIn_of _ (by decide +kernel)) ggX4_deal_X4_isBaker
set_option maxRecDepth 20000 in
theorem ggX4_deal_X4_fail : GoodIn wsX4_deal wsX4_fail := goodIn_r _ [14, 1, 24, 25, 26, 27, 28, 29, 30, 31] (by decide +kernel) (by decide +kernel)
set_option maxRecDepth 20000 in
theorem gX4_deal_X4_fail : GoodIn wsX4_deal (wsV RX4 39 RX4 yX4_fail wsX4_fail) := goodIn_app (goodIn_of _ (by decide +kernel)) ggX4_deal_X4_fail
set_option maxRecDepth 20000 in
theorem ggX4_deal_X4_isIn : GoodIn wsX4_deal wsX4_isIn := goodIn_r _ [10] (by decide +kernel) (by decide +kernel)
set_option maxRecDepth 20000 in
theorem gX4_deal_X4_isIn : GoodIn wsX4_deal (va_wsS RX4 32 yX4_isIn wsX4_isIn) := goodIn_app (goodIn_of _ (by decide +kernel)) ggX4_deal_X4_isIn
set_option maxRecDepth 20000 in
theorem ggX4_deal_X4_sh : GoodIn wsX4_deal wsX4_sh := goodIn_r _ [18, 19, 24, 25, 26, 27, 28, 29, 30, 31] (by decide +kernel) (by decide +kernel)
set_option maxRecDepth 20000 in
theorem gX4_deal_X4_sh : GoodIn wsX4_deal (wsV RX4 61 RX4 yX4_sh wsX4_sh) := goodIn_app (goodIn_of _ (by decide +kernel)) ggX4_deal_X4_sh
set_option maxRecDepth 20000 in
theorem ggX4_deal_X4_put : GoodIn wsX4_deal wsX4_put := goodIn_r _ [23, 19, 24, 25, 26, 27, 28, 29, 30, 31] (by decide +kernel) (by decide +kernel)
set_option maxRecDepth 20000 in
theorem gX4_deal_X4_put : GoodIn wsX4_deal (wsV RX4 70 RX4 yX4_put wsX4_put) := goodIn_app (goodIn_of _ (by decide +kernel)) ggX4_deal_X4_put
theorem dX4_deal_0 : decode cX4_deal 0 = .ok (.aload_n 0, 1) := by decide +kernel
theorem dX4_deal_1 : decode cX4_deal 1 = .ok (.iconst 0, 1) := by decide +kernel
theorem dX4_deal_2 : decode cX4_deal 2 = .ok (.putfield 26, 3) := by decide +kernel
theorem dX4_deal_5 : decode cX4_deal 5 = .ok (.aload_n 0, 1) := by decide +kernel
theorem dX4_deal_6 : decode cX4_deal 6 = .ok (.iload_n 1, 1) := by decide +kernel
theorem dX4_deal_7 : decode cX4_deal 7 = .ok (.invokevirtual 67, 3) := by decide +kernel
theorem dX4_deal_10 : decode cX4_deal 10 = .ok (.ifCond .ne 9, 3) := by decide +kernel
theorem dX4_deal_13 : decode cX4_deal 13 = .ok (.aload_n 0, 1) := by decide +kernel
theorem dX4_deal_14 : decode cX4_deal 14 = .ok (.iconst 1, 1) := by decide +kernel
theorem dX4_deal_15 : decode cX4_deal 15 = .ok (.invokevirtual 39, 3) := by decide +kernel
theorem dX4_deal_18 : decode cX4_deal 18 = .ok (.ireturn, 1) := by decide +kernel
theorem dX4_deal_19 : decode cX4_deal 19 = .ok (.iload_n 2, 1) := by decide +kernel
theorem dX4_deal_20 : decode cX4_deal 20 = .ok (.iconst 0, 1) := by decide +kernel
theorem dX4_deal_21 : decode cX4_deal 21 = .ok (.bipush 90, 2) := by decide +kernel
theorem dX4_deal_23 : decode cX4_deal 23 = .ok (.invokestatic 32, 3) := by decide +kernel
theorem dX4_deal_26 : decode cX4_deal 26 = .ok (.ifCond .ne 9, 3) := by decide +kernel
theorem dX4_deal_29 : decode cX4_deal 29 = .ok (.aload_n 0, 1) := by decide +kernel
theorem dX4_deal_30 : decode cX4_deal 30 = .ok (.iconst 2, 1) := by decide +kernel
theorem dX4_deal_31 : decode cX4_deal 31 = .ok (.invokevirtual 39, 3) := by decide +kernel
theorem dX4_deal_34 : decode cX4_deal 34 = .ok (.ireturn, 1) := by decide +kernel
theorem dX4_deal_35 : decode cX4_deal 35 = .ok (.aload_n 0, 1) := by decide +kernel
theorem dX4_deal_36 : decode cX4_deal 36 = .ok (.iload_n 1, 1) := by decide +kernel
theorem dX4_deal_37 : decode cX4_deal 37 = .ok (.iconst 2, 1) := by decide +kernel
theorem dX4_deal_38 : decode cX4_deal 38 = .ok (.invokevirtual 61, 3) := by decide +kernel
theorem dX4_deal_41 : decode cX4_deal 41 = .ok (.istore_n 3, 1) := by decide +kernel
theorem dX4_deal_42 : decode cX4_deal 42 = .ok (.aload_n 0, 1) := by decide +kernel
theorem dX4_deal_43 : decode cX4_deal 43 = .ok (.iload_n 1, 1) := by decide +kernel
theorem dX4_deal_44 : decode cX4_deal 44 = .ok (.iconst 2, 1) := by decide +kernel
theorem dX4_deal_45 : decode cX4_deal 45 = .ok (.iload_n 2, 1) := by decide +kernel
theorem dX4_deal_46 : decode cX4_deal 46 = .ok (.invokevirtual 70, 3) := by decide +kernel
theorem dX4_deal_49 : decode cX4_deal 49 = .ok (.iload_n 3, 1) := by decide +kernel
theorem dX4_deal_50 : decode cX4_deal 50 = .ok (.ireturn, 1) := by decide +kernel
set_option maxRecDepth 20000 in
theorem ggX4_weigh_X4_isBaker : GoodIn wsX4_weigh wsX4_isBaker := goodIn_r _ [6, 7, 8, 9, 5, 10, 24, 25, 26, 27, 28, 29, 30, 31] (by decide +kernel) (by decide +kernel)
set_option maxRecDepth 20000 in
theorem gX4_weigh_X4_isBaker : GoodIn wsX4_weigh (wsV RX4 67 RX4 yX4_isBaker wsX4_isBaker) := goodIn_app (goodIn_of _ (by decide +kernel)) ggX4_weigh_X4_isBaker
set_option maxRecDepth 20000 in
theorem ggX4_weigh_X4_fail : GoodIn wsX4_weigh wsX4_fail := goodIn_r _ [14, 1, 24, 25, 26, 27, 28, 29, 30, 31] (by decide +kernel) (by decide +kernel)
set_option maxRecDepth 20000 in
theorem gX4_weigh_X4_fail : GoodIn wsX4_weigh (wsV RX4 39 RX4 yX4_fail wsX4_fail) := goodIn_app (goodIn_of _ (by decide +kernel)) ggX4_weigh_X4_fail
set_option maxRecDepth 20000 in
theorem ggX4_weigh_X4_sh : GoodIn wsX4_weigh wsX4_sh := goodIn_r _ [18, 19, 24, 25, 26, 27, 28, 29, 30, 31] (by decide +kernel) (by decide +kernel)
set_option maxRecDepth 20000 in
theorem gX4_weigh_X4_sh : GoodIn wsX4_weigh (wsV RX4 61 RX4 yX4_sh wsX4_sh) := goodIn_app (goodIn_of _ (by decide +kernel)) ggX4_weigh_X4_sh
set_option maxRecDepth 20000 in
theorem ggX4_weigh_X4_put : GoodIn wsX4_weigh wsX4_put := goodIn_r _ [23, 19, 24, 25, 26, 27, 28, 29, 30, 31] (by decide +kernel) (by decide +kernel)
set_option maxRecDepth 20000 in
theorem gX4_weigh_X4_put : GoodIn wsX4_weigh (wsV RX4 70 RX4 yX4_put wsX4_put) := goodIn_app (goodIn_of _ (by decide +kernel)) ggX4_weigh_X4_put
theorem dX4_weigh_0 : decode cX4_weigh 0 = .ok (.aload_n 0, 1) := by decide +kernel
theorem dX4_weigh_1 : decode cX4_weigh 1 = .ok (.iconst 0, 1) := by decide +kernel
theorem dX4_weigh_2 : decode cX4_weigh 2 = .ok (.putfield 26, 3) := by decide +kernel
theorem dX4_weigh_5 : decode cX4_weigh 5 = .ok (.aload_n 0, 1) := by decide +kernel
theorem dX4_weigh_6 : decode cX4_weigh 6 = .ok (.iload_n 1, 1) := by decide +kernel
theorem dX4_weigh_7 : decode cX4_weigh 7 = .ok (.invokevirtual 67, 3) := by decide +kernel
theorem dX4_weigh_10 : decode cX4_weigh 10 = .ok (.ifCond .ne 9, 3) := by decide +kernel
theorem dX4_weigh_13 : decode cX4_weigh 13 = .ok (.aload_n 0, 1) := by decide +kernel
theorem dX4_weigh_14 : decode cX4_weigh 14 = .ok (.iconst 1, 1) := by decide +kernel
theorem dX4_weigh_15 : decode cX4_weigh 15 = .ok (.invokevirtual 39, 3) := by decide +kernel
theorem dX4_weigh_18 : decode cX4_weigh 18 = .ok (.ireturn, 1) := by decide +kernel
theorem dX4_weigh_19 : decode cX4_weigh 19 = .ok (.aload_n 0, 1) := by decide +kernel
theorem dX4_weigh_20 : decode cX4_weigh 20 = .ok (.iload_n 1, 1) := by decide +kernel
theorem dX4_weigh_21 : decode cX4_weigh 21 = .ok (.iconst 5, 1) := by decide +kernel
theorem dX4_weigh_22 : decode cX4_weigh 22 = .ok (.invokevirtual 61, 3) := by decide +kernel
theorem dX4_weigh_25 : decode cX4_weigh 25 = .ok (.ifCond .ne 9, 3) := by decide +kernel
theorem dX4_weigh_28 : decode cX4_weigh 28 = .ok (.aload_n 0, 1) := by decide +kernel
theorem dX4_weigh_29 : decode cX4_weigh 29 = .ok (.iconst 2, 1) := by decide +kernel
theorem dX4_weigh_30 : decode cX4_weigh 30 = .ok (.invokevirtual 39, 3) := by decide +kernel
theorem dX4_weigh_33 : decode cX4_weigh 33 = .ok (.ireturn, 1) := by decide +kernel
theorem dX4_weigh_34 : decode cX4_weigh 34 = .ok (.aload_n 0, 1) := by decide +kernel
theorem dX4_weigh_35 : decode cX4_weigh 35 = .ok (.iload_n 1, 1) := by decide +kernel
theorem dX4_weigh_36 : decode cX4_weigh 36 = .ok (.iconst 5, 1) := by decide +kernel
theorem dX4_weigh_37 : decode cX4_weigh 37 = .ok (.aload_n 0, 1) := by decide +kernel
theorem dX4_weigh_38 : decode cX4_weigh 38 = .ok (.iload_n 1, 1) := by decide +kernel
theorem dX4_weigh_39 : decode cX4_weigh 39 = .ok (.iconst 5, 1) := by decide +kernel
theorem dX4_weigh_40 : decode cX4_weigh 40 = .ok (.invokevirtual 61, 3) := by decide +kernel
theorem dX4_weigh_43 : decode cX4_weigh 43 = .ok (.iconst 1, 1) := by decide +kernel
theorem dX4_weigh_44 : decode cX4_weigh 44 = .ok (.isub, 1) := by decide +kernel
theorem dX4_weigh_45 : decode cX4_weigh 45 = .ok (.invokevirtual 70, 3) := by decide +kernel
theorem dX4_weigh_48 : decode cX4_weigh 48 = .ok (.aload_n 0, 1) := by decide +kernel
theorem dX4_weigh_49 : decode cX4_weigh 49 = .ok (.iload_n 1, 1) := by decide +kernel
theorem dX4_weigh_50 : decode cX4_weigh 50 = .ok (.iconst 4, 1) := by decide +kernel
theorem dX4_weigh_51 : decode cX4_weigh 51 = .ok (.invokevirtual 61, 3) := by decide +kernel
theorem dX4_weigh_54 : decode cX4_weigh 54 = .ok (.bipush 10, 2) := by decide +kernel
theorem dX4_weigh_56 : decode cX4_weigh 56 = .ok (.if_icmp .ge 11, 3) := by decide +kernel
theorem dX4_weigh_59 : decode cX4_weigh 59 = .ok (.aload_n 0, 1) := by decide +kernel
theorem dX4_weigh_60 : decode cX4_weigh 60 = .ok (.iload_n 1, 1) := by decide +kernel
theorem dX4_weigh_61 : decode cX4_weigh 61 = .ok (.bipush 7, 2) := by decide +kernel
theorem dX4_weigh_63 : decode cX4_weigh 63 = .ok (.iconst 1, 1) := by decide +kernel
theorem dX4_weigh_64 : decode cX4_weigh 64 = .ok (.invokevirtual 70, 3) := by decide +kernel
theorem dX4_weigh_67 : decode cX4_weigh 67 = .ok (.aload_n 0, 1) := by decide +kernel
theorem dX4_weigh_68 : decode cX4_weigh 68 = .ok (.iload_n 1, 1) := by decide +kernel
theorem dX4_weigh_69 : decode cX4_weigh 69 = .ok (.iconst 4, 1) := by decide +kernel
theorem dX4_weigh_70 : decode cX4_weigh 70 = .ok (.invokevirtual 61, 3) := by decide +kernel
theorem dX4_weigh_73 : decode cX4_weigh 73 = .ok (.ireturn, 1) := by decide +kernel
set_option maxRecDepth 20000 in
theorem ggX4_pardon_X4_isBaker : GoodIn wsX4_pardon wsX4_isBaker := goodIn_r _ [10, 11, 12, 13, 9, 14, 24, 25, 26, 27, 28, 29, 30, 31] (by decide +kernel) (by decide +kernel)
set_option maxRecDepth 20000 in
theorem gX4_pardon_X4_isBaker : GoodIn wsX4_pardon (wsV RX4 67 RX4 yX4_isBaker wsX4_isBaker) := goodIn_app (goodIn_of _ (by decide +kernel)) ggX4_pardon_X4_isBaker
set_option maxRecDepth 20000 in
theorem ggX4_pardon_X4_sh : GoodIn wsX4_pardon wsX4_sh := goodIn_r _ [18, 19, 24, 25, 26, 27, 28, 29, 30, 31] (by decide +kernel) (by decide +kernel)
set_option maxRecDepth 20000 in
theorem gX4_pardon_X4_sh : GoodIn wsX4_pardon (wsV RX4 61 RX4 yX4_sh wsX4_sh) := goodIn_app (goodIn_of _ (by decide +kernel)) ggX4_pardon_X4_sh
set_option maxRecDepth 20000 in
theorem ggX4_pardon_X4_put : GoodIn wsX4_pardon wsX4_put := goodIn_r _ [23, 19, 24, 25, 26, 27, 28, 29, 30, 31] (by decide +kernel) (by decide +kernel)
set_option maxRecDepth 20000 in
theorem gX4_pardon_X4_put : GoodIn wsX4_pardon (wsV RX4 70 RX4 yX4_put wsX4_put) := goodIn_app (goodIn_of _ (by decide +kernel)) ggX4_pardon_X4_put
theorem dX4_pardon_0 : decode cX4_pardon 0 = .ok (.aload_n 0, 1) := by decide +kernel
theorem dX4_pardon_1 : decode cX4_pardon 1 = .ok (.aload_n 0, 1) := by decide +kernel
theorem dX4_pardon_2 : decode cX4_pardon 2 = .ok (.iload_n 1, 1) := by decide +kernel
theorem dX4_pardon_3 : decode cX4_pardon 3 = .ok (.invokevirtual 67, 3) := by decide +kernel
theorem dX4_pardon_6 : decode cX4_pardon 6 = .ok (.ifCond .eq 7, 3) := by decide +kernel
theorem dX4_pardon_9 : decode cX4_pardon 9 = .ok (.iconst 0, 1) := by decide +kernel
theorem dX4_pardon_10 : decode cX4_pardon 10 = .ok (.goto 4, 3) := by decide +kernel
theorem dX4_pardon_13 : decode cX4_pardon 13 = .ok (.iconst 1, 1) := by decide +kernel
theorem dX4_pardon_14 : decode cX4_pardon 14 = .ok (.putfield 26, 3) := by decide +kernel
theorem dX4_pardon_17 : decode cX4_pardon 17 = .ok (.aload_n 0, 1) := by decide +kernel
theorem dX4_pardon_18 : decode cX4_pardon 18 = .ok (.getfield 26, 3) := by decide +kernel
theorem dX4_pardon_21 : decode cX4_pardon 21 = .ok (.ifCond .eq 5, 3) := by decide +kernel
theorem dX4_pardon_24 : decode cX4_pardon 24 = .ok (.iconst 0, 1) := by decide +kernel
theorem dX4_pardon_25 : decode cX4_pardon 25 = .ok (.ireturn, 1) := by decide +kernel
theorem dX4_pardon_26 : decode cX4_pardon 26 = .ok (.aload_n 0, 1) := by decide +kernel
theorem dX4_pardon_27 : decode cX4_pardon 27 = .ok (.iload_n 1, 1) := by decide +kernel
theorem dX4_pardon_28 : decode cX4_pardon 28 = .ok (.bipush 7, 2) := by decide +kernel
theorem dX4_pardon_30 : decode cX4_pardon 30 = .ok (.invokevirtual 61, 3) := by decide +kernel
theorem dX4_pardon_33 : decode cX4_pardon 33 = .ok (.iconst 1, 1) := by decide +kernel
theorem dX4_pardon_34 : decode cX4_pardon 34 = .ok (.if_icmp .ne 7, 3) := by decide +kernel
theorem dX4_pardon_37 : decode cX4_pardon 37 = .ok (.iconst 1, 1) := by decide +kernel
theorem dX4_pardon_38 : decode cX4_pardon 38 = .ok (.goto 4, 3) := by decide +kernel
theorem dX4_pardon_41 : decode cX4_pardon 41 = .ok (.iconst 0, 1) := by decide +kernel
theorem dX4_pardon_42 : decode cX4_pardon 42 = .ok (.istore_n 2, 1) := by decide +kernel
theorem dX4_pardon_43 : decode cX4_pardon 43 = .ok (.aload_n 0, 1) := by decide +kernel
theorem dX4_pardon_44 : decode cX4_pardon 44 = .ok (.iload_n 1, 1) := by decide +kernel
theorem dX4_pardon_45 : decode cX4_pardon 45 = .ok (.bipush 7, 2) := by decide +kernel
theorem dX4_pardon_47 : decode cX4_pardon 47 = .ok (.iconst 0, 1) := by decide +kernel
theorem dX4_pardon_48 : decode cX4_pardon 48 = .ok (.invokevirtual 70, 3) := by decide +kernel
theorem dX4_pardon_51 : decode cX4_pardon 51 = .ok (.aload_n 0, 1) := by decide +kernel
theorem dX4_pardon_52 : decode cX4_pardon 52 = .ok (.iload_n 1, 1) := by decide +kernel
theorem dX4_pardon_53 : decode cX4_pardon 53 = .ok (.iconst 4, 1) := by decide +kernel
theorem dX4_pardon_54 : decode cX4_pardon 54 = .ok (.bipush 10, 2) := by decide +kernel
theorem dX4_pardon_56 : decode cX4_pardon 56 = .ok (.aload_n 0, 1) := by decide +kernel
theorem dX4_pardon_57 : decode cX4_pardon 57 = .ok (.iload_n 1, 1) := by decide +kernel
theorem dX4_pardon_58 : decode cX4_pardon 58 = .ok (.iconst 4, 1) := by decide +kernel
theorem dX4_pardon_59 : decode cX4_pardon 59 = .ok (.invokevirtual 61, 3) := by decide +kernel
theorem dX4_pardon_62 : decode cX4_pardon 62 = .ok (.invokestatic 73, 3) := by decide +kernel
theorem dX4_pardon_65 : decode cX4_pardon 65 = .ok (.invokevirtual 70, 3) := by decide +kernel
theorem dX4_pardon_68 : decode cX4_pardon 68 = .ok (.iload_n 2, 1) := by decide +kernel
theorem dX4_pardon_69 : decode cX4_pardon 69 = .ok (.ireturn, 1) := by decide +kernel
set_option maxRecDepth 20000 in
theorem ggX4_storeTold_X4_ba : GoodIn wsX4_storeTold wsX4_ba := goodIn_r _ [6, 7, 13, 14, 15, 16, 17, 18, 19, 20] (by decide +kernel) (by decide +kernel)
set_option maxRecDepth 20000 in
theorem gX4_storeTold_X4_ba : GoodIn wsX4_storeTold (wsV RX4 53 RX4 yX4_ba wsX4_ba) := goodIn_app (goodIn_of _ (by decide +kernel)) ggX4_storeTold_X4_ba
set_option maxRecDepth 20000 in
theorem ggX4_storeTold_X4_sh : GoodIn wsX4_storeTold wsX4_sh := goodIn_r _ [11, 12, 13, 14, 15, 16, 17, 18, 19, 20] (by decide +kernel) (by decide +kernel)
set_option maxRecDepth 20000 in
theorem gX4_storeTold_X4_sh : GoodIn wsX4_storeTold (wsV RX4 61 RX4 yX4_sh wsX4_sh) := goodIn_app (goodIn_of _ (by decide +kernel)) ggX4_storeTold_X4_sh
theorem dX4_storeTold_0 : decode cX4_storeTold 0 = .ok (.iconst 0, 1) := by decide +kernel
theorem dX4_storeTold_1 : decode cX4_storeTold 1 = .ok (.istore_n 3, 1) := by decide +kernel
theorem dX4_storeTold_2 : decode cX4_storeTold 2 = .ok (.iload_n 2, 1) := by decide +kernel
theorem dX4_storeTold_3 : decode cX4_storeTold 3 = .ok (.iconst 2, 1) := by decide +kernel
theorem dX4_storeTold_4 : decode cX4_storeTold 4 = .ok (.if_icmp .eq 19, 3) := by decide +kernel
theorem dX4_storeTold_7 : decode cX4_storeTold 7 = .ok (.aload_n 0, 1) := by decide +kernel
theorem dX4_storeTold_8 : decode cX4_storeTold 8 = .ok (.iload_n 1, 1) := by decide +kernel
theorem dX4_storeTold_9 : decode cX4_storeTold 9 = .ok (.iload_n 2, 1) := by decide +kernel
theorem dX4_storeTold_10 : decode cX4_storeTold 10 = .ok (.iconst 3, 1) := by decide +kernel
theorem dX4_storeTold_11 : decode cX4_storeTold 11 = .ok (.if_icmp .ne 7, 3) := by decide +kernel
theorem dX4_storeTold_14 : decode cX4_storeTold 14 = .ok (.iconst 2, 1) := by decide +kernel
theorem dX4_storeTold_15 : decode cX4_storeTold 15 = .ok (.goto 4, 3) := by decide +kernel
theorem dX4_storeTold_18 : decode cX4_storeTold 18 = .ok (.iload_n 2, 1) := by decide +kernel
theorem dX4_storeTold_19 : decode cX4_storeTold 19 = .ok (.invokevirtual 53, 3) := by decide +kernel
theorem dX4_storeTold_22 : decode cX4_storeTold 22 = .ok (.ireturn, 1) := by decide +kernel
theorem dX4_storeTold_23 : decode cX4_storeTold 23 = .ok (.iconst 0, 1) := by decide +kernel
theorem dX4_storeTold_24 : decode cX4_storeTold 24 = .ok (.istore 4, 2) := by decide +kernel
theorem dX4_storeTold_26 : decode cX4_storeTold 26 = .ok (.iload 4, 2) := by decide +kernel
theorem dX4_storeTold_28 : decode cX4_storeTold 28 = .ok (.aload_n 0, 1) := by decide +kernel
theorem dX4_storeTold_29 : decode cX4_storeTold 29 = .ok (.getfield 36, 3) := by decide +kernel
theorem dX4_storeTold_32 : decode cX4_storeTold 32 = .ok (.if_icmp .ge 28, 3) := by decide +kernel
theorem dX4_storeTold_35 : decode cX4_storeTold 35 = .ok (.iload_n 3, 1) := by decide +kernel
theorem dX4_storeTold_36 : decode cX4_storeTold 36 = .ok (.aload_n 0, 1) := by decide +kernel
theorem dX4_storeTold_37 : decode cX4_storeTold 37 = .ok (.iload 4, 2) := by decide +kernel
theorem dX4_storeTold_39 : decode cX4_storeTold 39 = .ok (.iconst 0, 1) := by decide +kernel
theorem dX4_storeTold_40 : decode cX4_storeTold 40 = .ok (.invokevirtual 61, 3) := by decide +kernel
theorem dX4_storeTold_43 : decode cX4_storeTold 43 = .ok (.iload_n 1, 1) := by decide +kernel
theorem dX4_storeTold_44 : decode cX4_storeTold 44 = .ok (.if_icmp .ne 7, 3) := by decide +kernel
theorem dX4_storeTold_47 : decode cX4_storeTold 47 = .ok (.iconst 1, 1) := by decide +kernel
theorem dX4_storeTold_48 : decode cX4_storeTold 48 = .ok (.goto 4, 3) := by decide +kernel
theorem dX4_storeTold_51 : decode cX4_storeTold 51 = .ok (.iconst 0, 1) := by decide +kernel
theorem dX4_storeTold_52 : decode cX4_storeTold 52 = .ok (.iadd, 1) := by decide +kernel
theorem dX4_storeTold_53 : decode cX4_storeTold 53 = .ok (.istore_n 3, 1) := by decide +kernel
theorem dX4_storeTold_54 : decode cX4_storeTold 54 = .ok (.iinc 4 1, 3) := by decide +kernel
theorem dX4_storeTold_57 : decode cX4_storeTold 57 = .ok (.goto (-31), 3) := by decide +kernel
theorem dX4_storeTold_60 : decode cX4_storeTold 60 = .ok (.iload_n 3, 1) := by decide +kernel
theorem dX4_storeTold_61 : decode cX4_storeTold 61 = .ok (.ireturn, 1) := by decide +kernel
set_option maxRecDepth 20000 in
theorem ggX4_store_X4_isStore : GoodIn wsX4_store wsX4_isStore := goodIn_r _ [6, 7, 8, 9, 5, 10, 30, 31, 32, 33, 34, 35, 36, 37] (by decide +kernel) (by decide +kernel)
set_option maxRecDepth 20000 in
theorem gX4_store_X4_isStore : GoodIn wsX4_store (wsV RX4 49 RX4 yX4_isStore wsX4_isStore) := goodIn_app (goodIn_of _ (by decide +kernel)) ggX4_store_X4_isStore
set_option maxRecDepth 20000 in
theorem ggX4_store_X4_isIn : GoodIn wsX4_store wsX4_isIn := goodIn_r _ [10] (by decide +kernel) (by decide +kernel)
set_option maxRecDepth 20000 in
theorem gX4_store_X4_isIn : GoodIn wsX4_store (va_wsS RX4 32 yX4_isIn wsX4_isIn) := goodIn_app (goodIn_of _ (by decide +kernel)) ggX4_store_X4_isIn
set_option maxRecDepth 20000 in
theorem ggX4_store_X4_storeTold : GoodIn wsX4_store wsX4_storeTold := goodIn_r _ [14, 15, 16, 17, 18, 5, 19, 20, 21, 22, 23, 24, 25, 30, 31, 32, 33, 34, 35, 36, 37] (by decide +kernel) (by decide +kernel)
set_option maxRecDepth 20000 in
theorem gX4_store_X4_storeTold : GoodIn wsX4_store (wsV RX4 78 RX4 yX4_storeTold wsX4_storeTold) := goodIn_app (goodIn_of _ (by decide +kernel)) ggX4_store_X4_storeTold
set_option maxRecDepth 20000 in
theorem ggX4_store_X4_fail : GoodIn wsX4_store wsX4_fail := goodIn_r _ [29, 1, 30, 31, 32, 33, 34, 35, 36, 37] (by decide +kernel) (by decide +kernel)
set_option maxRecDepth 20000 in
theorem gX4_store_X4_fail : GoodIn wsX4_store (wsV RX4 39 RX4 yX4_fail wsX4_fail) := goodIn_app (goodIn_of _ (by decide +kernel)) ggX4_store_X4_fail
theorem dX4_store_0 : decode cX4_store 0 = .ok (.aload_n 0, 1) := by decide +kernel
theorem dX4_store_1 : decode cX4_store 1 = .ok (.iconst 0, 1) := by decide +kernel
theorem dX4_store_2 : decode cX4_store 2 = .ok (.putfield 26, 3) := by decide +kernel
theorem dX4_store_5 : decode cX4_store 5 = .ok (.aload_n 0, 1) := by decide +kernel
theorem dX4_store_6 : decode cX4_store 6 = .ok (.iload_n 1, 1) := by decide +kernel
theorem dX4_store_7 : decode cX4_store 7 = .ok (.invokevirtual 49, 3) := by decide +kernel
theorem dX4_store_10 : decode cX4_store 10 = .ok (.ifCond .eq 21, 3) := by decide +kernel
theorem dX4_store_13 : decode cX4_store 13 = .ok (.iload_n 2, 1) := by decide +kernel
theorem dX4_store_14 : decode cX4_store 14 = .ok (.iconst 0, 1) := by decide +kernel
theorem dX4_store_15 : decode cX4_store 15 = .ok (.iconst 3, 1) := by decide +kernel
theorem dX4_store_16 : decode cX4_store 16 = .ok (.invokestatic 32, 3) := by decide +kernel
theorem dX4_store_19 : decode cX4_store 19 = .ok (.ifCond .eq 12, 3) := by decide +kernel
theorem dX4_store_22 : decode cX4_store 22 = .ok (.aload_n 0, 1) := by decide +kernel
theorem dX4_store_23 : decode cX4_store 23 = .ok (.iload_n 1, 1) := by decide +kernel
theorem dX4_store_24 : decode cX4_store 24 = .ok (.iload_n 2, 1) := by decide +kernel
theorem dX4_store_25 : decode cX4_store 25 = .ok (.invokevirtual 78, 3) := by decide +kernel
theorem dX4_store_28 : decode cX4_store 28 = .ok (.goto 8, 3) := by decide +kernel
theorem dX4_store_31 : decode cX4_store 31 = .ok (.aload_n 0, 1) := by decide +kernel
theorem dX4_store_32 : decode cX4_store 32 = .ok (.iconst 1, 1) := by decide +kernel
theorem dX4_store_33 : decode cX4_store 33 = .ok (.invokevirtual 39, 3) := by decide +kernel
theorem dX4_store_36 : decode cX4_store 36 = .ok (.ireturn, 1) := by decide +kernel
set_option maxRecDepth 20000 in
theorem ggX4_baker_X4_isBaker : GoodIn wsX4_baker wsX4_isBaker := goodIn_r _ [6, 7, 8, 9, 5, 10, 20, 21, 22, 23, 24, 25, 26, 27] (by decide +kernel) (by decide +kernel)
set_option maxRecDepth 20000 in
theorem gX4_baker_X4_isBaker : GoodIn wsX4_baker (wsV RX4 67 RX4 yX4_isBaker wsX4_isBaker) := goodIn_app (goodIn_of _ (by decide +kernel)) ggX4_baker_X4_isBaker
set_option maxRecDepth 20000 in
theorem ggX4_baker_X4_isIn : GoodIn wsX4_baker wsX4_isIn := goodIn_r _ [10] (by decide +kernel) (by decide +kernel)
set_option maxRecDepth 20000 in
theorem gX4_baker_X4_isIn : GoodIn wsX4_baker (va_wsS RX4 32 yX4_isIn wsX4_isIn) := goodIn_app (goodIn_of _ (by decide +kernel)) ggX4_baker_X4_isIn
set_option maxRecDepth 20000 in
theorem ggX4_baker_X4_sh : GoodIn wsX4_baker wsX4_sh := goodIn_r _ [14, 15, 20, 21, 22, 23, 24, 25, 26, 27] (by decide +kernel) (by decide +kernel)
set_option maxRecDepth 20000 in
theorem gX4_baker_X4_sh : GoodIn wsX4_baker (wsV RX4 61 RX4 yX4_sh wsX4_sh) := goodIn_app (goodIn_of _ (by decide +kernel)) ggX4_baker_X4_sh
set_option maxRecDepth 20000 in
theorem ggX4_baker_X4_fail : GoodIn wsX4_baker wsX4_fail := goodIn_r _ [19, 1, 20, 21, 22, 23, 24, 25, 26, 27] (by decide +kernel) (by decide +kernel)
set_option maxRecDepth 20000 in
theorem gX4_baker_X4_fail : GoodIn wsX4_baker (wsV RX4 39 RX4 yX4_fail wsX4_fail) := goodIn_app (goodIn_of _ (by decide +kernel)) ggX4_baker_X4_fail
theorem dX4_baker_0 : decode cX4_baker 0 = .ok (.aload_n 0, 1) := by decide +kernel
theorem dX4_baker_1 : decode cX4_baker 1 = .ok (.iconst 0, 1) := by decide +kernel
theorem dX4_baker_2 : decode cX4_baker 2 = .ok (.putfield 26, 3) := by decide +kernel
theorem dX4_baker_5 : decode cX4_baker 5 = .ok (.aload_n 0, 1) := by decide +kernel
theorem dX4_baker_6 : decode cX4_baker 6 = .ok (.iload_n 1, 1) := by decide +kernel
theorem dX4_baker_7 : decode cX4_baker 7 = .ok (.invokevirtual 67, 3) := by decide +kernel
theorem dX4_baker_10 : decode cX4_baker 10 = .ok (.ifCond .eq 22, 3) := by decide +kernel
theorem dX4_baker_13 : decode cX4_baker 13 = .ok (.iload_n 2, 1) := by decide +kernel
theorem dX4_baker_14 : decode cX4_baker 14 = .ok (.iconst 0, 1) := by decide +kernel
theorem dX4_baker_15 : decode cX4_baker 15 = .ok (.bipush 7, 2) := by decide +kernel
theorem dX4_baker_17 : decode cX4_baker 17 = .ok (.invokestatic 32, 3) := by decide +kernel
theorem dX4_baker_20 : decode cX4_baker 20 = .ok (.ifCond .eq 12, 3) := by decide +kernel
theorem dX4_baker_23 : decode cX4_baker 23 = .ok (.aload_n 0, 1) := by decide +kernel
theorem dX4_baker_24 : decode cX4_baker 24 = .ok (.iload_n 1, 1) := by decide +kernel
theorem dX4_baker_25 : decode cX4_baker 25 = .ok (.iload_n 2, 1) := by decide +kernel
theorem dX4_baker_26 : decode cX4_baker 26 = .ok (.invokevirtual 61, 3) := by decide +kernel
theorem dX4_baker_29 : decode cX4_baker 29 = .ok (.goto 8, 3) := by decide +kernel
theorem dX4_baker_32 : decode cX4_baker 32 = .ok (.aload_n 0, 1) := by decide +kernel
theorem dX4_baker_33 : decode cX4_baker 33 = .ok (.iconst 1, 1) := by decide +kernel
theorem dX4_baker_34 : decode cX4_baker 34 = .ok (.invokevirtual 39, 3) := by decide +kernel
theorem dX4_baker_37 : decode cX4_baker 37 = .ok (.ireturn, 1) := by decide +kernel
set_option maxRecDepth 20000 in
theorem ggX4_whose_X4_isIn : GoodIn wsX4_whose wsX4_isIn := goodIn_r _ [5] (by decide +kernel) (by decide +kernel)
set_option maxRecDepth 20000 in
theorem gX4_whose_X4_isIn : GoodIn wsX4_whose (va_wsS RX4 32 yX4_isIn wsX4_isIn) := goodIn_app (goodIn_of _ (by decide +kernel)) ggX4_whose_X4_isIn
set_option maxRecDepth 20000 in
theorem ggX4_whose_X4_owner : GoodIn wsX4_whose wsX4_owner := goodIn_r _ [9, 10, 11, 12, 13, 4, 14, 15, 20, 21, 22, 23, 24, 25, 26, 27] (by decide +kernel) (by decide +kernel)
set_option maxRecDepth 20000 in
theorem gX4_whose_X4_owner : GoodIn wsX4_whose (wsV RX4 64 RX4 yX4_owner wsX4_owner) := goodIn_app (goodIn_of _ (by decide +kernel)) ggX4_whose_X4_owner
set_option maxRecDepth 20000 in
theorem ggX4_whose_X4_fail : GoodIn wsX4_whose wsX4_fail := goodIn_r _ [19, 1, 20, 21, 22, 23, 24, 25, 26, 27] (by decide +kernel) (by decide +kernel)
set_option maxRecDepth 20000 in
theorem gX4_whose_X4_fail : GoodIn wsX4_whose (wsV RX4 39 RX4 yX4_fail wsX4_fail) := goodIn_app (goodIn_of _ (by decide +kernel)) ggX4_whose_X4_fail
theorem dX4_whose_0 : decode cX4_whose 0 = .ok (.aload_n 0, 1) := by decide +kernel
theorem dX4_whose_1 : decode cX4_whose 1 = .ok (.iconst 0, 1) := by decide +kernel
theorem dX4_whose_2 : decode cX4_whose 2 = .ok (.putfield 26, 3) := by decide +kernel
theorem dX4_whose_5 : decode cX4_whose 5 = .ok (.iload_n 1, 1) := by decide +kernel
theorem dX4_whose_6 : decode cX4_whose 6 = .ok (.iconst 0, 1) := by decide +kernel
theorem dX4_whose_7 : decode cX4_whose 7 = .ok (.bipush 25, 2) := by decide +kernel
theorem dX4_whose_9 : decode cX4_whose 9 = .ok (.invokestatic 32, 3) := by decide +kernel
theorem dX4_whose_12 : decode cX4_whose 12 = .ok (.ifCond .eq 11, 3) := by decide +kernel
theorem dX4_whose_15 : decode cX4_whose 15 = .ok (.aload_n 0, 1) := by decide +kernel
theorem dX4_whose_16 : decode cX4_whose 16 = .ok (.iload_n 1, 1) := by decide +kernel
theorem dX4_whose_17 : decode cX4_whose 17 = .ok (.invokevirtual 64, 3) := by decide +kernel
theorem dX4_whose_20 : decode cX4_whose 20 = .ok (.goto 8, 3) := by decide +kernel
theorem dX4_whose_23 : decode cX4_whose 23 = .ok (.aload_n 0, 1) := by decide +kernel
theorem dX4_whose_24 : decode cX4_whose 24 = .ok (.iconst 1, 1) := by decide +kernel
theorem dX4_whose_25 : decode cX4_whose 25 = .ok (.invokevirtual 39, 3) := by decide +kernel
theorem dX4_whose_28 : decode cX4_whose 28 = .ok (.ireturn, 1) := by decide +kernel
set_option maxRecDepth 20000 in
theorem ggX4_allStores_X4_ba : GoodIn wsX4_allStores wsX4_ba := goodIn_r _ [6, 7, 8, 9, 10, 11, 12, 13, 14, 15] (by decide +kernel) (by decide +kernel)
set_option maxRecDepth 20000 in
theorem gX4_allStores_X4_ba : GoodIn wsX4_allStores (wsV RX4 53 RX4 yX4_ba wsX4_ba) := goodIn_app (goodIn_of _ (by decide +kernel)) ggX4_allStores_X4_ba
theorem dX4_allStores_0 : decode cX4_allStores 0 = .ok (.iconst 0, 1) := by decide +kernel
theorem dX4_allStores_1 : decode cX4_allStores 1 = .ok (.istore_n 2, 1) := by decide +kernel
theorem dX4_allStores_2 : decode cX4_allStores 2 = .ok (.iconst 0, 1) := by decide +kernel
theorem dX4_allStores_3 : decode cX4_allStores 3 = .ok (.istore_n 3, 1) := by decide +kernel
theorem dX4_allStores_4 : decode cX4_allStores 4 = .ok (.iload_n 3, 1) := by decide +kernel
theorem dX4_allStores_5 : decode cX4_allStores 5 = .ok (.aload_n 0, 1) := by decide +kernel
theorem dX4_allStores_6 : decode cX4_allStores 6 = .ok (.getfield 29, 3) := by decide +kernel
theorem dX4_allStores_9 : decode cX4_allStores 9 = .ok (.if_icmp .ge 18, 3) := by decide +kernel
theorem dX4_allStores_12 : decode cX4_allStores 12 = .ok (.iload_n 2, 1) := by decide +kernel
theorem dX4_allStores_13 : decode cX4_allStores 13 = .ok (.aload_n 0, 1) := by decide +kernel
theorem dX4_allStores_14 : decode cX4_allStores 14 = .ok (.iload_n 3, 1) := by decide +kernel
theorem dX4_allStores_15 : decode cX4_allStores 15 = .ok (.iload_n 1, 1) := by decide +kernel
theorem dX4_allStores_16 : decode cX4_allStores 16 = .ok (.invokevirtual 53, 3) := by decide +kernel
theorem dX4_allStores_19 : decode cX4_allStores 19 = .ok (.iadd, 1) := by decide +kernel
theorem dX4_allStores_20 : decode cX4_allStores 20 = .ok (.istore_n 2, 1) := by decide +kernel
theorem dX4_allStores_21 : decode cX4_allStores 21 = .ok (.iinc 3 1, 3) := by decide +kernel
theorem dX4_allStores_24 : decode cX4_allStores 24 = .ok (.goto (-20), 3) := by decide +kernel
theorem dX4_allStores_27 : decode cX4_allStores 27 = .ok (.iload_n 2, 1) := by decide +kernel
theorem dX4_allStores_28 : decode cX4_allStores 28 = .ok (.ireturn, 1) := by decide +kernel
set_option maxRecDepth 20000 in
theorem ggX4_allBakers_X4_sh : GoodIn wsX4_allBakers wsX4_sh := goodIn_r _ [6, 7, 8, 9, 10, 11, 12, 13, 14, 15] (by decide +kernel) (by decide +kernel)
set_option maxRecDepth 20000 in
theorem gX4_allBakers_X4_sh : GoodIn wsX4_allBakers (wsV RX4 61 RX4 yX4_sh wsX4_sh) := goodIn_app (goodIn_of _ (by decide +kernel)) ggX4_allBakers_X4_sh
theorem dX4_allBakers_0 : decode cX4_allBakers 0 = .ok (.iconst 0, 1) := by decide +kernel
theorem dX4_allBakers_1 : decode cX4_allBakers 1 = .ok (.istore_n 2, 1) := by decide +kernel
theorem dX4_allBakers_2 : decode cX4_allBakers 2 = .ok (.iconst 0, 1) := by decide +kernel
theorem dX4_allBakers_3 : decode cX4_allBakers 3 = .ok (.istore_n 3, 1) := by decide +kernel
theorem dX4_allBakers_4 : decode cX4_allBakers 4 = .ok (.iload_n 3, 1) := by decide +kernel
theorem dX4_allBakers_5 : decode cX4_allBakers 5 = .ok (.aload_n 0, 1) := by decide +kernel
theorem dX4_allBakers_6 : decode cX4_allBakers 6 = .ok (.getfield 36, 3) := by decide +kernel
theorem dX4_allBakers_9 : decode cX4_allBakers 9 = .ok (.if_icmp .ge 18, 3) := by decide +kernel
theorem dX4_allBakers_12 : decode cX4_allBakers 12 = .ok (.iload_n 2, 1) := by decide +kernel
theorem dX4_allBakers_13 : decode cX4_allBakers 13 = .ok (.aload_n 0, 1) := by decide +kernel
theorem dX4_allBakers_14 : decode cX4_allBakers 14 = .ok (.iload_n 3, 1) := by decide +kernel
theorem dX4_allBakers_15 : decode cX4_allBakers 15 = .ok (.iload_n 1, 1) := by decide +kernel
theorem dX4_allBakers_16 : decode cX4_allBakers 16 = .ok (.invokevirtual 61, 3) := by decide +kernel
theorem dX4_allBakers_19 : decode cX4_allBakers 19 = .ok (.iadd, 1) := by decide +kernel
theorem dX4_allBakers_20 : decode cX4_allBakers 20 = .ok (.istore_n 2, 1) := by decide +kernel
theorem dX4_allBakers_21 : decode cX4_allBakers 21 = .ok (.iinc 3 1, 3) := by decide +kernel
theorem dX4_allBakers_24 : decode cX4_allBakers 24 = .ok (.goto (-20), 3) := by decide +kernel
theorem dX4_allBakers_27 : decode cX4_allBakers 27 = .ok (.iload_n 2, 1) := by decide +kernel
theorem dX4_allBakers_28 : decode cX4_allBakers 28 = .ok (.ireturn, 1) := by decide +kernel
set_option maxRecDepth 20000 in
theorem ggX4_counted_X4_allStores : GoodIn wsX4_counted wsX4_allStores := goodIn_r _ [8, 9, 10, 11, 12, 7, 13, 14, 25, 26, 27, 28, 29, 30, 31, 32] (by decide +kernel) (by decide +kernel)
set_option maxRecDepth 20000 in
theorem gX4_counted_X4_allStores : GoodIn wsX4_counted (wsV RX4 81 RX4 yX4_allStores wsX4_allStores) := goodIn_app (goodIn_of _ (by decide +kernel)) ggX4_counted_X4_allStores
set_option maxRecDepth 20000 in
theorem ggX4_counted_X4_allBakers : GoodIn wsX4_counted wsX4_allBakers := goodIn_r _ [18, 19, 20, 21, 22, 7, 23, 24, 25, 26, 27, 28, 29, 30, 31, 32] (by decide +kernel) (by decide +kernel)
set_option maxRecDepth 20000 in
theorem gX4_counted_X4_allBakers : GoodIn wsX4_counted (wsV RX4 84 RX4 yX4_allBakers wsX4_allBakers) := goodIn_app (goodIn_of _ (by decide +kernel)) ggX4_counted_X4_allBakers
theorem dX4_counted_0 : decode cX4_counted 0 = .ok (.bipush 10, 2) := by decide +kernel
theorem dX4_counted_2 : decode cX4_counted 2 = .ok (.newarray .int, 2) := by decide +kernel
theorem dX4_counted_4 : decode cX4_counted 4 = .ok (.dup, 1) := by decide +kernel
theorem dX4_counted_5 : decode cX4_counted 5 = .ok (.iconst 0, 1) := by decide +kernel
theorem dX4_counted_6 : decode cX4_counted 6 = .ok (.aload_n 0, 1) := by decide +kernel
theorem dX4_counted_7 : decode cX4_counted 7 = .ok (.getfield 23, 3) := by decide +kernel
theorem dX4_counted_10 : decode cX4_counted 10 = .ok (.iconst 0, 1) := by decide +kernel
theorem dX4_counted_11 : decode cX4_counted 11 = .ok (.iaload, 1) := by decide +kernel
theorem dX4_counted_12 : decode cX4_counted 12 = .ok (.iastore, 1) := by decide +kernel
theorem dX4_counted_13 : decode cX4_counted 13 = .ok (.dup, 1) := by decide +kernel
theorem dX4_counted_14 : decode cX4_counted 14 = .ok (.iconst 1, 1) := by decide +kernel
theorem dX4_counted_15 : decode cX4_counted 15 = .ok (.aload_n 0, 1) := by decide +kernel
theorem dX4_counted_16 : decode cX4_counted 16 = .ok (.getfield 23, 3) := by decide +kernel
theorem dX4_counted_19 : decode cX4_counted 19 = .ok (.iconst 0, 1) := by decide +kernel
theorem dX4_counted_20 : decode cX4_counted 20 = .ok (.iaload, 1) := by decide +kernel
theorem dX4_counted_21 : decode cX4_counted 21 = .ok (.bipush 24, 2) := by decide +kernel
theorem dX4_counted_23 : decode cX4_counted 23 = .ok (.irem, 1) := by decide +kernel
theorem dX4_counted_24 : decode cX4_counted 24 = .ok (.iastore, 1) := by decide +kernel
theorem dX4_counted_25 : decode cX4_counted 25 = .ok (.dup, 1) := by decide +kernel
theorem dX4_counted_26 : decode cX4_counted 26 = .ok (.iconst 2, 1) := by decide +kernel
theorem dX4_counted_27 : decode cX4_counted 27 = .ok (.aload_n 0, 1) := by decide +kernel
theorem dX4_counted_28 : decode cX4_counted 28 = .ok (.getfield 7, 3) := by decide +kernel
theorem dX4_counted_31 : decode cX4_counted 31 = .ok (.iastore, 1) := by decide +kernel
theorem dX4_counted_32 : decode cX4_counted 32 = .ok (.dup, 1) := by decide +kernel
theorem dX4_counted_33 : decode cX4_counted 33 = .ok (.iconst 3, 1) := by decide +kernel
theorem dX4_counted_34 : decode cX4_counted 34 = .ok (.aload_n 0, 1) := by decide +kernel
theorem dX4_counted_35 : decode cX4_counted 35 = .ok (.iconst 0, 1) := by decide +kernel
theorem dX4_counted_36 : decode cX4_counted 36 = .ok (.invokevirtual 81, 3) := by decide +kernel
theorem dX4_counted_39 : decode cX4_counted 39 = .ok (.iastore, 1) := by decide +kernel
theorem dX4_counted_40 : decode cX4_counted 40 = .ok (.dup, 1) := by decide +kernel
theorem dX4_counted_41 : decode cX4_counted 41 = .ok (.iconst 4, 1) := by decide +kernel
theorem dX4_counted_42 : decode cX4_counted 42 = .ok (.aload_n 0, 1) := by decide +kernel
theorem dX4_counted_43 : decode cX4_counted 43 = .ok (.iconst 5, 1) := by decide +kernel
theorem dX4_counted_44 : decode cX4_counted 44 = .ok (.invokevirtual 84, 3) := by decide +kernel
theorem dX4_counted_47 : decode cX4_counted 47 = .ok (.iastore, 1) := by decide +kernel
theorem dX4_counted_48 : decode cX4_counted 48 = .ok (.dup, 1) := by decide +kernel
theorem dX4_counted_49 : decode cX4_counted 49 = .ok (.iconst 5, 1) := by decide +kernel
theorem dX4_counted_50 : decode cX4_counted 50 = .ok (.aload_n 0, 1) := by decide +kernel
theorem dX4_counted_51 : decode cX4_counted 51 = .ok (.getfield 23, 3) := by decide +kernel
theorem dX4_counted_54 : decode cX4_counted 54 = .ok (.iconst 1, 1) := by decide +kernel
theorem dX4_counted_55 : decode cX4_counted 55 = .ok (.iaload, 1) := by decide +kernel
theorem dX4_counted_56 : decode cX4_counted 56 = .ok (.iastore, 1) := by decide +kernel
theorem dX4_counted_57 : decode cX4_counted 57 = .ok (.dup, 1) := by decide +kernel
theorem dX4_counted_58 : decode cX4_counted 58 = .ok (.bipush 6, 2) := by decide +kernel
theorem dX4_counted_60 : decode cX4_counted 60 = .ok (.aload_n 0, 1) := by decide +kernel
theorem dX4_counted_61 : decode cX4_counted 61 = .ok (.getfield 23, 3) := by decide +kernel
theorem dX4_counted_64 : decode cX4_counted 64 = .ok (.iconst 2, 1) := by decide +kernel
theorem dX4_counted_65 : decode cX4_counted 65 = .ok (.iaload, 1) := by decide +kernel
theorem dX4_counted_66 : decode cX4_counted 66 = .ok (.iastore, 1) := by decide +kernel
theorem dX4_counted_67 : decode cX4_counted 67 = .ok (.dup, 1) := by decide +kernel
theorem dX4_counted_68 : decode cX4_counted 68 = .ok (.bipush 7, 2) := by decide +kernel
theorem dX4_counted_70 : decode cX4_counted 70 = .ok (.aload_n 0, 1) := by decide +kernel
theorem dX4_counted_71 : decode cX4_counted 71 = .ok (.getfield 23, 3) := by decide +kernel
theorem dX4_counted_74 : decode cX4_counted 74 = .ok (.iconst 3, 1) := by decide +kernel
theorem dX4_counted_75 : decode cX4_counted 75 = .ok (.iaload, 1) := by decide +kernel
theorem dX4_counted_76 : decode cX4_counted 76 = .ok (.iastore, 1) := by decide +kernel
theorem dX4_counted_77 : decode cX4_counted 77 = .ok (.dup, 1) := by decide +kernel
theorem dX4_counted_78 : decode cX4_counted 78 = .ok (.bipush 8, 2) := by decide +kernel
theorem dX4_counted_80 : decode cX4_counted 80 = .ok (.aload_n 0, 1) := by decide +kernel
theorem dX4_counted_81 : decode cX4_counted 81 = .ok (.bipush 7, 2) := by decide +kernel
theorem dX4_counted_83 : decode cX4_counted 83 = .ok (.invokevirtual 84, 3) := by decide +kernel
theorem dX4_counted_86 : decode cX4_counted 86 = .ok (.iastore, 1) := by decide +kernel
theorem dX4_counted_87 : decode cX4_counted 87 = .ok (.dup, 1) := by decide +kernel
theorem dX4_counted_88 : decode cX4_counted 88 = .ok (.bipush 9, 2) := by decide +kernel
theorem dX4_counted_90 : decode cX4_counted 90 = .ok (.aload_n 0, 1) := by decide +kernel
theorem dX4_counted_91 : decode cX4_counted 91 = .ok (.getfield 23, 3) := by decide +kernel
theorem dX4_counted_94 : decode cX4_counted 94 = .ok (.iconst 4, 1) := by decide +kernel
theorem dX4_counted_95 : decode cX4_counted 95 = .ok (.iaload, 1) := by decide +kernel
theorem dX4_counted_96 : decode cX4_counted 96 = .ok (.iastore, 1) := by decide +kernel
theorem dX4_counted_97 : decode cX4_counted 97 = .ok (.astore_n 2, 1) := by decide +kernel
theorem dX4_counted_98 : decode cX4_counted 98 = .ok (.aload_n 2, 1) := by decide +kernel
theorem dX4_counted_99 : decode cX4_counted 99 = .ok (.iload_n 1, 1) := by decide +kernel
theorem dX4_counted_100 : decode cX4_counted 100 = .ok (.iaload, 1) := by decide +kernel
theorem dX4_counted_101 : decode cX4_counted 101 = .ok (.ireturn, 1) := by decide +kernel
set_option maxRecDepth 20000 in
theorem ggX4_count_X4_isIn : GoodIn wsX4_count wsX4_isIn := goodIn_r _ [5] (by decide +kernel) (by decide +kernel)
set_option maxRecDepth 20000 in
theorem gX4_count_X4_isIn : GoodIn wsX4_count (va_wsS RX4 32 yX4_isIn wsX4_isIn) := goodIn_app (goodIn_of _ (by decide +kernel)) ggX4_count_X4_isIn
set_option maxRecDepth 20000 in
theorem ggX4_count_X4_counted : GoodIn wsX4_count wsX4_counted := goodIn_r _ [9, 10, 11, 12, 13, 14, 15, 4, 16, 17, 18, 19, 20, 21, 22, 23, 24, 25, 26, 27, 28, 29, 30, 31, 32, 37, 38, 39, 40, 41, 42, 43, 44] (by decide +kernel) (by decide +kernel)
set_option maxRecDepth 20000 in
theorem gX4_count_X4_counted : GoodIn wsX4_count (wsV RX4 87 RX4 yX4_counted wsX4_counted) := goodIn_app (goodIn_of _ (by decide +kernel)) ggX4_count_X4_counted
set_option maxRecDepth 20000 in
theorem ggX4_count_X4_fail : GoodIn wsX4_count wsX4_fail := goodIn_r _ [36, 1, 37, 38, 39, 40, 41, 42, 43, 44] (by decide +kernel) (by decide +kernel)
set_option maxRecDepth 20000 in
theorem gX4_count_X4_fail : GoodIn wsX4_count (wsV RX4 39 RX4 yX4_fail wsX4_fail) := goodIn_app (goodIn_of _ (by decide +kernel)) ggX4_count_X4_fail
theorem dX4_count_0 : decode cX4_count 0 = .ok (.aload_n 0, 1) := by decide +kernel
theorem dX4_count_1 : decode cX4_count 1 = .ok (.iconst 0, 1) := by decide +kernel
theorem dX4_count_2 : decode cX4_count 2 = .ok (.putfield 26, 3) := by decide +kernel
theorem dX4_count_5 : decode cX4_count 5 = .ok (.iload_n 1, 1) := by decide +kernel
theorem dX4_count_6 : decode cX4_count 6 = .ok (.iconst 0, 1) := by decide +kernel
theorem dX4_count_7 : decode cX4_count 7 = .ok (.bipush 9, 2) := by decide +kernel
theorem dX4_count_9 : decode cX4_count 9 = .ok (.invokestatic 32, 3) := by decide +kernel
theorem dX4_count_12 : decode cX4_count 12 = .ok (.ifCond .eq 11, 3) := by decide +kernel
theorem dX4_count_15 : decode cX4_count 15 = .ok (.aload_n 0, 1) := by decide +kernel
theorem dX4_count_16 : decode cX4_count 16 = .ok (.iload_n 1, 1) := by decide +kernel
theorem dX4_count_17 : decode cX4_count 17 = .ok (.invokevirtual 87, 3) := by decide +kernel
theorem dX4_count_20 : decode cX4_count 20 = .ok (.goto 8, 3) := by decide +kernel
theorem dX4_count_23 : decode cX4_count 23 = .ok (.aload_n 0, 1) := by decide +kernel
theorem dX4_count_24 : decode cX4_count 24 = .ok (.iconst 1, 1) := by decide +kernel
theorem dX4_count_25 : decode cX4_count 25 = .ok (.invokevirtual 39, 3) := by decide +kernel
theorem dX4_count_28 : decode cX4_count 28 = .ok (.ireturn, 1) := by decide +kernel
set_option maxRecDepth 20000 in
theorem ggX4_carts_X4_ba : GoodIn wsX4_carts wsX4_ba := goodIn_r _ [14, 15, 20, 21, 22, 23, 24, 25, 26, 27] (by decide +kernel) (by decide +kernel)
set_option maxRecDepth 20000 in
theorem gX4_carts_X4_ba : GoodIn wsX4_carts (wsV RX4 53 RX4 yX4_ba wsX4_ba) := goodIn_app (goodIn_of _ (by decide +kernel)) ggX4_carts_X4_ba
set_option maxRecDepth 20000 in
theorem ggX4_carts_X4_setStore : GoodIn wsX4_carts wsX4_setStore := goodIn_r _ [19, 15, 20, 21, 22, 23, 24, 25, 26, 27] (by decide +kernel) (by decide +kernel)
set_option maxRecDepth 20000 in
theorem gX4_carts_X4_setStore : GoodIn wsX4_carts (wsV RX4 57 RX4 yX4_setStore wsX4_setStore) := goodIn_app (goodIn_of _ (by decide +kernel)) ggX4_carts_X4_setStore
theorem dX4_carts_0 : decode cX4_carts 0 = .ok (.aload_n 0, 1) := by decide +kernel
theorem dX4_carts_1 : decode cX4_carts 1 = .ok (.getfield 29, 3) := by decide +kernel
theorem dX4_carts_4 : decode cX4_carts 4 = .ok (.ifCond .ne 4, 3) := by decide +kernel
theorem dX4_carts_7 : decode cX4_carts 7 = .ok (.return_, 1) := by decide +kernel
theorem dX4_carts_8 : decode cX4_carts 8 = .ok (.iconst 0, 1) := by decide +kernel
theorem dX4_carts_9 : decode cX4_carts 9 = .ok (.istore_n 2, 1) := by decide +kernel
theorem dX4_carts_10 : decode cX4_carts 10 = .ok (.iconst 1, 1) := by decide +kernel
theorem dX4_carts_11 : decode cX4_carts 11 = .ok (.istore_n 3, 1) := by decide +kernel
theorem dX4_carts_12 : decode cX4_carts 12 = .ok (.iload_n 3, 1) := by decide +kernel
theorem dX4_carts_13 : decode cX4_carts 13 = .ok (.aload_n 0, 1) := by decide +kernel
theorem dX4_carts_14 : decode cX4_carts 14 = .ok (.getfield 29, 3) := by decide +kernel
theorem dX4_carts_17 : decode cX4_carts 17 = .ok (.if_icmp .ge 26, 3) := by decide +kernel
theorem dX4_carts_20 : decode cX4_carts 20 = .ok (.aload_n 0, 1) := by decide +kernel
theorem dX4_carts_21 : decode cX4_carts 21 = .ok (.iload_n 3, 1) := by decide +kernel
theorem dX4_carts_22 : decode cX4_carts 22 = .ok (.iconst 0, 1) := by decide +kernel
theorem dX4_carts_23 : decode cX4_carts 23 = .ok (.invokevirtual 53, 3) := by decide +kernel
theorem dX4_carts_26 : decode cX4_carts 26 = .ok (.aload_n 0, 1) := by decide +kernel
theorem dX4_carts_27 : decode cX4_carts 27 = .ok (.iload_n 2, 1) := by decide +kernel
theorem dX4_carts_28 : decode cX4_carts 28 = .ok (.iconst 0, 1) := by decide +kernel
theorem dX4_carts_29 : decode cX4_carts 29 = .ok (.invokevirtual 53, 3) := by decide +kernel
theorem dX4_carts_32 : decode cX4_carts 32 = .ok (.if_icmp .ge 5, 3) := by decide +kernel
theorem dX4_carts_35 : decode cX4_carts 35 = .ok (.iload_n 3, 1) := by decide +kernel
theorem dX4_carts_36 : decode cX4_carts 36 = .ok (.istore_n 2, 1) := by decide +kernel
theorem dX4_carts_37 : decode cX4_carts 37 = .ok (.iinc 3 1, 3) := by decide +kernel
theorem dX4_carts_40 : decode cX4_carts 40 = .ok (.goto (-28), 3) := by decide +kernel
theorem dX4_carts_43 : decode cX4_carts 43 = .ok (.aload_n 0, 1) := by decide +kernel
theorem dX4_carts_44 : decode cX4_carts 44 = .ok (.iload_n 2, 1) := by decide +kernel
theorem dX4_carts_45 : decode cX4_carts 45 = .ok (.iconst 0, 1) := by decide +kernel
theorem dX4_carts_46 : decode cX4_carts 46 = .ok (.invokevirtual 53, 3) := by decide +kernel
theorem dX4_carts_49 : decode cX4_carts 49 = .ok (.iload_n 1, 1) := by decide +kernel
theorem dX4_carts_50 : decode cX4_carts 50 = .ok (.iadd, 1) := by decide +kernel
theorem dX4_carts_51 : decode cX4_carts 51 = .ok (.istore_n 3, 1) := by decide +kernel
theorem dX4_carts_52 : decode cX4_carts 52 = .ok (.aload_n 0, 1) := by decide +kernel
theorem dX4_carts_53 : decode cX4_carts 53 = .ok (.iload_n 2, 1) := by decide +kernel
theorem dX4_carts_54 : decode cX4_carts 54 = .ok (.iconst 0, 1) := by decide +kernel
theorem dX4_carts_55 : decode cX4_carts 55 = .ok (.sipush 900, 3) := by decide +kernel
theorem dX4_carts_58 : decode cX4_carts 58 = .ok (.iload_n 3, 1) := by decide +kernel
theorem dX4_carts_59 : decode cX4_carts 59 = .ok (.invokestatic 90, 3) := by decide +kernel
theorem dX4_carts_62 : decode cX4_carts 62 = .ok (.invokevirtual 57, 3) := by decide +kernel
theorem dX4_carts_65 : decode cX4_carts 65 = .ok (.aload_n 0, 1) := by decide +kernel
theorem dX4_carts_66 : decode cX4_carts 66 = .ok (.getfield 23, 3) := by decide +kernel
theorem dX4_carts_69 : decode cX4_carts 69 = .ok (.iconst 4, 1) := by decide +kernel
theorem dX4_carts_70 : decode cX4_carts 70 = .ok (.dup2, 1) := by decide +kernel
theorem dX4_carts_71 : decode cX4_carts 71 = .ok (.iaload, 1) := by decide +kernel
theorem dX4_carts_72 : decode cX4_carts 72 = .ok (.iconst 0, 1) := by decide +kernel
theorem dX4_carts_73 : decode cX4_carts 73 = .ok (.iload_n 3, 1) := by decide +kernel
theorem dX4_carts_74 : decode cX4_carts 74 = .ok (.sipush 900, 3) := by decide +kernel
theorem dX4_carts_77 : decode cX4_carts 77 = .ok (.isub, 1) := by decide +kernel
theorem dX4_carts_78 : decode cX4_carts 78 = .ok (.invokestatic 73, 3) := by decide +kernel
theorem dX4_carts_81 : decode cX4_carts 81 = .ok (.iadd, 1) := by decide +kernel
theorem dX4_carts_82 : decode cX4_carts 82 = .ok (.iastore, 1) := by decide +kernel
theorem dX4_carts_83 : decode cX4_carts 83 = .ok (.return_, 1) := by decide +kernel
set_option maxRecDepth 20000 in
theorem ggX4_night_X4_sh : GoodIn wsX4_night wsX4_sh := goodIn_r _ [11, 12, 26, 27, 28, 29, 30, 31, 32, 33] (by decide +kernel) (by decide +kernel)
set_option maxRecDepth 20000 in
theorem gX4_night_X4_sh : GoodIn wsX4_night (wsV RX4 61 RX4 yX4_sh wsX4_sh) := goodIn_app (goodIn_of _ (by decide +kernel)) ggX4_night_X4_sh
set_option maxRecDepth 20000 in
theorem ggX4_night_X4_ba : GoodIn wsX4_night wsX4_ba := goodIn_r _ [16, 17, 26, 27, 28, 29, 30, 31, 32, 33] (by decide +kernel) (by decide +kernel)
set_option maxRecDepth 20000 in
theorem gX4_night_X4_ba : GoodIn wsX4_night (wsV RX4 53 RX4 yX4_ba wsX4_ba) := goodIn_app (goodIn_of _ (by decide +kernel)) ggX4_night_X4_ba
set_option maxRecDepth 20000 in
theorem ggX4_night_X4_setStore : GoodIn wsX4_night wsX4_setStore := goodIn_r _ [21, 17, 26, 27, 28, 29, 30, 31, 32, 33] (by decide +kernel) (by decide +kernel)
set_option maxRecDepth 20000 in
theorem gX4_night_X4_setStore : GoodIn wsX4_night (wsV RX4 57 RX4 yX4_setStore wsX4_setStore) := goodIn_app (goodIn_of _ (by decide +kernel)) ggX4_night_X4_setStore
set_option maxRecDepth 20000 in
theorem ggX4_night_X4_put : GoodIn wsX4_night wsX4_put := goodIn_r _ [25, 12, 26, 27, 28, 29, 30, 31, 32, 33] (by decide +kernel) (by decide +kernel)
set_option maxRecDepth 20000 in
theorem gX4_night_X4_put : GoodIn wsX4_night (wsV RX4 70 RX4 yX4_put wsX4_put) := goodIn_app (goodIn_of _ (by decide +kernel)) ggX4_night_X4_put
theorem dX4_night_0 : decode cX4_night 0 = .ok (.iconst 0, 1) := by decide +kernel
theorem dX4_night_1 : decode cX4_night 1 = .ok (.istore_n 1, 1) := by decide +kernel
theorem dX4_night_2 : decode cX4_night 2 = .ok (.iload_n 1, 1) := by decide +kernel
theorem dX4_night_3 : decode cX4_night 3 = .ok (.aload_n 0, 1) := by decide +kernel
theorem dX4_night_4 : decode cX4_night 4 = .ok (.getfield 36, 3) := by decide +kernel
theorem dX4_night_7 : decode cX4_night 7 = .ok (.if_icmp .ge 82, 3) := by decide +kernel
theorem dX4_night_10 : decode cX4_night 10 = .ok (.aload_n 0, 1) := by decide +kernel
theorem dX4_night_11 : decode cX4_night 11 = .ok (.iload_n 1, 1) := by decide +kernel
theorem dX4_night_12 : decode cX4_night 12 = .ok (.bipush 7, 2) := by decide +kernel
theorem dX4_night_14 : decode cX4_night 14 = .ok (.invokevirtual 61, 3) := by decide +kernel
theorem dX4_night_17 : decode cX4_night 17 = .ok (.iconst 1, 1) := by decide +kernel
theorem dX4_night_18 : decode cX4_night 18 = .ok (.if_icmp .ne 6, 3) := by decide +kernel
theorem dX4_night_21 : decode cX4_night 21 = .ok (.goto 62, 3) := by decide +kernel
theorem dX4_night_24 : decode cX4_night 24 = .ok (.aload_n 0, 1) := by decide +kernel
theorem dX4_night_25 : decode cX4_night 25 = .ok (.iload_n 1, 1) := by decide +kernel
theorem dX4_night_26 : decode cX4_night 26 = .ok (.iconst 2, 1) := by decide +kernel
theorem dX4_night_27 : decode cX4_night 27 = .ok (.invokevirtual 61, 3) := by decide +kernel
theorem dX4_night_30 : decode cX4_night 30 = .ok (.aload_n 0, 1) := by decide +kernel
theorem dX4_night_31 : decode cX4_night 31 = .ok (.aload_n 0, 1) := by decide +kernel
theorem dX4_night_32 : decode cX4_night 32 = .ok (.iload_n 1, 1) := by decide +kernel
theorem dX4_night_33 : decode cX4_night 33 = .ok (.iconst 0, 1) := by decide +kernel
theorem dX4_night_34 : decode cX4_night 34 = .ok (.invokevirtual 61, 3) := by decide +kernel
theorem dX4_night_37 : decode cX4_night 37 = .ok (.iconst 0, 1) := by decide +kernel
theorem dX4_night_38 : decode cX4_night 38 = .ok (.invokevirtual 53, 3) := by decide +kernel
theorem dX4_night_41 : decode cX4_night 41 = .ok (.invokestatic 90, 3) := by decide +kernel
theorem dX4_night_44 : decode cX4_night 44 = .ok (.istore_n 2, 1) := by decide +kernel
theorem dX4_night_45 : decode cX4_night 45 = .ok (.aload_n 0, 1) := by decide +kernel
theorem dX4_night_46 : decode cX4_night 46 = .ok (.aload_n 0, 1) := by decide +kernel
theorem dX4_night_47 : decode cX4_night 47 = .ok (.iload_n 1, 1) := by decide +kernel
theorem dX4_night_48 : decode cX4_night 48 = .ok (.iconst 0, 1) := by decide +kernel
theorem dX4_night_49 : decode cX4_night 49 = .ok (.invokevirtual 61, 3) := by decide +kernel
theorem dX4_night_52 : decode cX4_night 52 = .ok (.iconst 0, 1) := by decide +kernel
theorem dX4_night_53 : decode cX4_night 53 = .ok (.aload_n 0, 1) := by decide +kernel
theorem dX4_night_54 : decode cX4_night 54 = .ok (.aload_n 0, 1) := by decide +kernel
theorem dX4_night_55 : decode cX4_night 55 = .ok (.iload_n 1, 1) := by decide +kernel
theorem dX4_night_56 : decode cX4_night 56 = .ok (.iconst 0, 1) := by decide +kernel
theorem dX4_night_57 : decode cX4_night 57 = .ok (.invokevirtual 61, 3) := by decide +kernel
theorem dX4_night_60 : decode cX4_night 60 = .ok (.iconst 0, 1) := by decide +kernel
theorem dX4_night_61 : decode cX4_night 61 = .ok (.invokevirtual 53, 3) := by decide +kernel
theorem dX4_night_64 : decode cX4_night 64 = .ok (.iload_n 2, 1) := by decide +kernel
theorem dX4_night_65 : decode cX4_night 65 = .ok (.isub, 1) := by decide +kernel
theorem dX4_night_66 : decode cX4_night 66 = .ok (.invokevirtual 57, 3) := by decide +kernel
theorem dX4_night_69 : decode cX4_night 69 = .ok (.aload_n 0, 1) := by decide +kernel
theorem dX4_night_70 : decode cX4_night 70 = .ok (.iload_n 1, 1) := by decide +kernel
theorem dX4_night_71 : decode cX4_night 71 = .ok (.iconst 3, 1) := by decide +kernel
theorem dX4_night_72 : decode cX4_night 72 = .ok (.aload_n 0, 1) := by decide +kernel
theorem dX4_night_73 : decode cX4_night 73 = .ok (.iload_n 1, 1) := by decide +kernel
theorem dX4_night_74 : decode cX4_night 74 = .ok (.iconst 3, 1) := by decide +kernel
theorem dX4_night_75 : decode cX4_night 75 = .ok (.invokevirtual 61, 3) := by decide +kernel
theorem dX4_night_78 : decode cX4_night 78 = .ok (.iload_n 2, 1) := by decide +kernel
theorem dX4_night_79 : decode cX4_night 79 = .ok (.iadd, 1) := by decide +kernel
theorem dX4_night_80 : decode cX4_night 80 = .ok (.invokevirtual 70, 3) := by decide +kernel
theorem dX4_night_83 : decode cX4_night 83 = .ok (.iinc 1 1, 3) := by decide +kernel
theorem dX4_night_86 : decode cX4_night 86 = .ok (.goto (-84), 3) := by decide +kernel
theorem dX4_night_89 : decode cX4_night 89 = .ok (.iconst 0, 1) := by decide +kernel
theorem dX4_night_90 : decode cX4_night 90 = .ok (.istore_n 1, 1) := by decide +kernel
theorem dX4_night_91 : decode cX4_night 91 = .ok (.iload_n 1, 1) := by decide +kernel
theorem dX4_night_92 : decode cX4_night 92 = .ok (.aload_n 0, 1) := by decide +kernel
theorem dX4_night_93 : decode cX4_night 93 = .ok (.getfield 29, 3) := by decide +kernel
theorem dX4_night_96 : decode cX4_night 96 = .ok (.if_icmp .ge 88, 3) := by decide +kernel
theorem dX4_night_99 : decode cX4_night 99 = .ok (.aload_n 0, 1) := by decide +kernel
theorem dX4_night_100 : decode cX4_night 100 = .ok (.iload_n 1, 1) := by decide +kernel
theorem dX4_night_101 : decode cX4_night 101 = .ok (.iconst 1, 1) := by decide +kernel
theorem dX4_night_102 : decode cX4_night 102 = .ok (.invokevirtual 53, 3) := by decide +kernel
theorem dX4_night_105 : decode cX4_night 105 = .ok (.istore_n 2, 1) := by decide +kernel
theorem dX4_night_106 : decode cX4_night 106 = .ok (.iload_n 2, 1) := by decide +kernel
theorem dX4_night_107 : decode cX4_night 107 = .ok (.aload_n 0, 1) := by decide +kernel
theorem dX4_night_108 : decode cX4_night 108 = .ok (.iload_n 1, 1) := by decide +kernel
theorem dX4_night_109 : decode cX4_night 109 = .ok (.iconst 0, 1) := by decide +kernel
theorem dX4_night_110 : decode cX4_night 110 = .ok (.invokevirtual 53, 3) := by decide +kernel
theorem dX4_night_113 : decode cX4_night 113 = .ok (.invokestatic 90, 3) := by decide +kernel
theorem dX4_night_116 : decode cX4_night 116 = .ok (.istore_n 3, 1) := by decide +kernel
theorem dX4_night_117 : decode cX4_night 117 = .ok (.aload_n 0, 1) := by decide +kernel
theorem dX4_night_118 : decode cX4_night 118 = .ok (.iload_n 1, 1) := by decide +kernel
theorem dX4_night_119 : decode cX4_night 119 = .ok (.iconst 0, 1) := by decide +kernel
theorem dX4_night_120 : decode cX4_night 120 = .ok (.aload_n 0, 1) := by decide +kernel
theorem dX4_night_121 : decode cX4_night 121 = .ok (.iload_n 1, 1) := by decide +kernel
theorem dX4_night_122 : decode cX4_night 122 = .ok (.iconst 0, 1) := by decide +kernel
theorem dX4_night_123 : decode cX4_night 123 = .ok (.invokevirtual 53, 3) := by decide +kernel
theorem dX4_night_126 : decode cX4_night 126 = .ok (.iload_n 3, 1) := by decide +kernel
theorem dX4_night_127 : decode cX4_night 127 = .ok (.isub, 1) := by decide +kernel
theorem dX4_night_128 : decode cX4_night 128 = .ok (.invokevirtual 57, 3) := by decide +kernel
theorem dX4_night_131 : decode cX4_night 131 = .ok (.aload_n 0, 1) := by decide +kernel
theorem dX4_night_132 : decode cX4_night 132 = .ok (.iload_n 1, 1) := by decide +kernel
theorem dX4_night_133 : decode cX4_night 133 = .ok (.iconst 2, 1) := by decide +kernel
theorem dX4_night_134 : decode cX4_night 134 = .ok (.aload_n 0, 1) := by decide +kernel
theorem dX4_night_135 : decode cX4_night 135 = .ok (.iload_n 1, 1) := by decide +kernel
theorem dX4_night_136 : decode cX4_night 136 = .ok (.iconst 2, 1) := by decide +kernel
theorem dX4_night_137 : decode cX4_night 137 = .ok (.invokevirtual 53, 3) := by decide +kernel
theorem dX4_night_140 : decode cX4_night 140 = .ok (.iload_n 3, 1) := by decide +kernel
theorem dX4_night_141 : decode cX4_night 141 = .ok (.iadd, 1) := by decide +kernel
theorem dX4_night_142 : decode cX4_night 142 = .ok (.invokevirtual 57, 3) := by decide +kernel
theorem dX4_night_145 : decode cX4_night 145 = .ok (.aload_n 0, 1) := by decide +kernel
theorem dX4_night_146 : decode cX4_night 146 = .ok (.iload_n 1, 1) := by decide +kernel
theorem dX4_night_147 : decode cX4_night 147 = .ok (.iconst 1, 1) := by decide +kernel
theorem dX4_night_148 : decode cX4_night 148 = .ok (.aload_n 0, 1) := by decide +kernel
theorem dX4_night_149 : decode cX4_night 149 = .ok (.iload_n 1, 1) := by decide +kernel
theorem dX4_night_150 : decode cX4_night 150 = .ok (.iconst 0, 1) := by decide +kernel
theorem dX4_night_151 : decode cX4_night 151 = .ok (.invokevirtual 53, 3) := by decide +kernel
theorem dX4_night_154 : decode cX4_night 154 = .ok (.ifCond .le 18, 3) := by decide +kernel
theorem dX4_night_157 : decode cX4_night 157 = .ok (.bipush 50, 2) := by decide +kernel
theorem dX4_night_159 : decode cX4_night 159 = .ok (.iload_n 2, 1) := by decide +kernel
theorem dX4_night_160 : decode cX4_night 160 = .ok (.iload_n 2, 1) := by decide +kernel
theorem dX4_night_161 : decode cX4_night 161 = .ok (.iconst 4, 1) := by decide +kernel
theorem dX4_night_162 : decode cX4_night 162 = .ok (.idiv, 1) := by decide +kernel
theorem dX4_night_163 : decode cX4_night 163 = .ok (.iadd, 1) := by decide +kernel
theorem dX4_night_164 : decode cX4_night 164 = .ok (.iconst 1, 1) := by decide +kernel
theorem dX4_night_165 : decode cX4_night 165 = .ok (.iadd, 1) := by decide +kernel
theorem dX4_night_166 : decode cX4_night 166 = .ok (.invokestatic 90, 3) := by decide +kernel
theorem dX4_night_169 : decode cX4_night 169 = .ok (.goto 6, 3) := by decide +kernel
theorem dX4_night_172 : decode cX4_night 172 = .ok (.iload_n 2, 1) := by decide +kernel
theorem dX4_night_173 : decode cX4_night 173 = .ok (.iconst 2, 1) := by decide +kernel
theorem dX4_night_174 : decode cX4_night 174 = .ok (.idiv, 1) := by decide +kernel
theorem dX4_night_175 : decode cX4_night 175 = .ok (.invokevirtual 57, 3) := by decide +kernel
theorem dX4_night_178 : decode cX4_night 178 = .ok (.iinc 1 1, 3) := by decide +kernel
theorem dX4_night_181 : decode cX4_night 181 = .ok (.goto (-90), 3) := by decide +kernel
theorem dX4_night_184 : decode cX4_night 184 = .ok (.return_, 1) := by decide +kernel
set_option maxRecDepth 20000 in
theorem ggX4_noon_X4_sh : GoodIn wsX4_noon wsX4_sh := goodIn_r _ [12, 13, 18, 19, 20, 21, 22, 23, 24, 25] (by decide +kernel) (by decide +kernel)
set_option maxRecDepth 20000 in
theorem gX4_noon_X4_sh : GoodIn wsX4_noon (wsV RX4 61 RX4 yX4_sh wsX4_sh) := goodIn_app (goodIn_of _ (by decide +kernel)) ggX4_noon_X4_sh
set_option maxRecDepth 20000 in
theorem ggX4_noon_X4_put : GoodIn wsX4_noon wsX4_put := goodIn_r _ [17, 13, 18, 19, 20, 21, 22, 23, 24, 25] (by decide +kernel) (by decide +kernel)
set_option maxRecDepth 20000 in
theorem gX4_noon_X4_put : GoodIn wsX4_noon (wsV RX4 70 RX4 yX4_put wsX4_put) := goodIn_app (goodIn_of _ (by decide +kernel)) ggX4_noon_X4_put
theorem dX4_noon_0 : decode cX4_noon 0 = .ok (.aload_n 0, 1) := by decide +kernel
theorem dX4_noon_1 : decode cX4_noon 1 = .ok (.getfield 7, 3) := by decide +kernel
theorem dX4_noon_4 : decode cX4_noon 4 = .ok (.istore_n 1, 1) := by decide +kernel
theorem dX4_noon_5 : decode cX4_noon 5 = .ok (.iconst 0, 1) := by decide +kernel
theorem dX4_noon_6 : decode cX4_noon 6 = .ok (.istore_n 2, 1) := by decide +kernel
theorem dX4_noon_7 : decode cX4_noon 7 = .ok (.iload_n 2, 1) := by decide +kernel
theorem dX4_noon_8 : decode cX4_noon 8 = .ok (.aload_n 0, 1) := by decide +kernel
theorem dX4_noon_9 : decode cX4_noon 9 = .ok (.getfield 36, 3) := by decide +kernel
theorem dX4_noon_12 : decode cX4_noon 12 = .ok (.if_icmp .ge 85, 3) := by decide +kernel
theorem dX4_noon_15 : decode cX4_noon 15 = .ok (.iload_n 1, 1) := by decide +kernel
theorem dX4_noon_16 : decode cX4_noon 16 = .ok (.aload_n 0, 1) := by decide +kernel
theorem dX4_noon_17 : decode cX4_noon 17 = .ok (.iload_n 2, 1) := by decide +kernel
theorem dX4_noon_18 : decode cX4_noon 18 = .ok (.iconst 5, 1) := by decide +kernel
theorem dX4_noon_19 : decode cX4_noon 19 = .ok (.invokevirtual 61, 3) := by decide +kernel
theorem dX4_noon_22 : decode cX4_noon 22 = .ok (.invokestatic 90, 3) := by decide +kernel
theorem dX4_noon_25 : decode cX4_noon 25 = .ok (.istore_n 3, 1) := by decide +kernel
theorem dX4_noon_26 : decode cX4_noon 26 = .ok (.iload_n 1, 1) := by decide +kernel
theorem dX4_noon_27 : decode cX4_noon 27 = .ok (.iload_n 3, 1) := by decide +kernel
theorem dX4_noon_28 : decode cX4_noon 28 = .ok (.isub, 1) := by decide +kernel
theorem dX4_noon_29 : decode cX4_noon 29 = .ok (.istore_n 1, 1) := by decide +kernel
theorem dX4_noon_30 : decode cX4_noon 30 = .ok (.aload_n 0, 1) := by decide +kernel
theorem dX4_noon_31 : decode cX4_noon 31 = .ok (.iload_n 2, 1) := by decide +kernel
theorem dX4_noon_32 : decode cX4_noon 32 = .ok (.iconst 5, 1) := by decide +kernel
theorem dX4_noon_33 : decode cX4_noon 33 = .ok (.aload_n 0, 1) := by decide +kernel
theorem dX4_noon_34 : decode cX4_noon 34 = .ok (.iload_n 2, 1) := by decide +kernel
theorem dX4_noon_35 : decode cX4_noon 35 = .ok (.iconst 5, 1) := by decide +kernel
theorem dX4_noon_36 : decode cX4_noon 36 = .ok (.invokevirtual 61, 3) := by decide +kernel
theorem dX4_noon_39 : decode cX4_noon 39 = .ok (.iload_n 3, 1) := by decide +kernel
theorem dX4_noon_40 : decode cX4_noon 40 = .ok (.isub, 1) := by decide +kernel
theorem dX4_noon_41 : decode cX4_noon 41 = .ok (.invokevirtual 70, 3) := by decide +kernel
theorem dX4_noon_44 : decode cX4_noon 44 = .ok (.aload_n 0, 1) := by decide +kernel
theorem dX4_noon_45 : decode cX4_noon 45 = .ok (.iload_n 2, 1) := by decide +kernel
theorem dX4_noon_46 : decode cX4_noon 46 = .ok (.bipush 6, 2) := by decide +kernel
theorem dX4_noon_48 : decode cX4_noon 48 = .ok (.aload_n 0, 1) := by decide +kernel
theorem dX4_noon_49 : decode cX4_noon 49 = .ok (.iload_n 2, 1) := by decide +kernel
theorem dX4_noon_50 : decode cX4_noon 50 = .ok (.bipush 6, 2) := by decide +kernel
theorem dX4_noon_52 : decode cX4_noon 52 = .ok (.invokevirtual 61, 3) := by decide +kernel
theorem dX4_noon_55 : decode cX4_noon 55 = .ok (.iload_n 3, 1) := by decide +kernel
theorem dX4_noon_56 : decode cX4_noon 56 = .ok (.iadd, 1) := by decide +kernel
theorem dX4_noon_57 : decode cX4_noon 57 = .ok (.invokevirtual 70, 3) := by decide +kernel
theorem dX4_noon_60 : decode cX4_noon 60 = .ok (.aload_n 0, 1) := by decide +kernel
theorem dX4_noon_61 : decode cX4_noon 61 = .ok (.getfield 23, 3) := by decide +kernel
theorem dX4_noon_64 : decode cX4_noon 64 = .ok (.iconst 1, 1) := by decide +kernel
theorem dX4_noon_65 : decode cX4_noon 65 = .ok (.dup2, 1) := by decide +kernel
theorem dX4_noon_66 : decode cX4_noon 66 = .ok (.iaload, 1) := by decide +kernel
theorem dX4_noon_67 : decode cX4_noon 67 = .ok (.iload_n 3, 1) := by decide +kernel
theorem dX4_noon_68 : decode cX4_noon 68 = .ok (.iadd, 1) := by decide +kernel
theorem dX4_noon_69 : decode cX4_noon 69 = .ok (.iastore, 1) := by decide +kernel
theorem dX4_noon_70 : decode cX4_noon 70 = .ok (.aload_n 0, 1) := by decide +kernel
theorem dX4_noon_71 : decode cX4_noon 71 = .ok (.iload_n 2, 1) := by decide +kernel
theorem dX4_noon_72 : decode cX4_noon 72 = .ok (.iconst 4, 1) := by decide +kernel
theorem dX4_noon_73 : decode cX4_noon 73 = .ok (.invokevirtual 61, 3) := by decide +kernel
theorem dX4_noon_76 : decode cX4_noon 76 = .ok (.bipush 10, 2) := by decide +kernel
theorem dX4_noon_78 : decode cX4_noon 78 = .ok (.if_icmp .ge 13, 3) := by decide +kernel
theorem dX4_noon_81 : decode cX4_noon 81 = .ok (.aload_n 0, 1) := by decide +kernel
theorem dX4_noon_82 : decode cX4_noon 82 = .ok (.getfield 23, 3) := by decide +kernel
theorem dX4_noon_85 : decode cX4_noon 85 = .ok (.iconst 2, 1) := by decide +kernel
theorem dX4_noon_86 : decode cX4_noon 86 = .ok (.dup2, 1) := by decide +kernel
theorem dX4_noon_87 : decode cX4_noon 87 = .ok (.iaload, 1) := by decide +kernel
theorem dX4_noon_88 : decode cX4_noon 88 = .ok (.iload_n 3, 1) := by decide +kernel
theorem dX4_noon_89 : decode cX4_noon 89 = .ok (.iadd, 1) := by decide +kernel
theorem dX4_noon_90 : decode cX4_noon 90 = .ok (.iastore, 1) := by decide +kernel
theorem dX4_noon_91 : decode cX4_noon 91 = .ok (.iinc 2 1, 3) := by decide +kernel
theorem dX4_noon_94 : decode cX4_noon 94 = .ok (.goto (-87), 3) := by decide +kernel
theorem dX4_noon_97 : decode cX4_noon 97 = .ok (.aload_n 0, 1) := by decide +kernel
theorem dX4_noon_98 : decode cX4_noon 98 = .ok (.getfield 23, 3) := by decide +kernel
theorem dX4_noon_101 : decode cX4_noon 101 = .ok (.iconst 3, 1) := by decide +kernel
theorem dX4_noon_102 : decode cX4_noon 102 = .ok (.dup2, 1) := by decide +kernel
theorem dX4_noon_103 : decode cX4_noon 103 = .ok (.iaload, 1) := by decide +kernel
theorem dX4_noon_104 : decode cX4_noon 104 = .ok (.iload_n 1, 1) := by decide +kernel
theorem dX4_noon_105 : decode cX4_noon 105 = .ok (.iadd, 1) := by decide +kernel
theorem dX4_noon_106 : decode cX4_noon 106 = .ok (.iastore, 1) := by decide +kernel
theorem dX4_noon_107 : decode cX4_noon 107 = .ok (.return_, 1) := by decide +kernel
set_option maxRecDepth 20000 in
theorem ggX4_hourOn_X4_carts : GoodIn wsX4_hourOn wsX4_carts := goodIn_r _ [12, 13, 4, 5, 6, 7, 1, 14, 15, 16, 17, 18, 19, 11, 20, 21, 22, 23, 24, 25, 44, 45, 46, 47, 48, 49, 50, 51] (by decide +kernel) (by decide +kernel)
set_option maxRecDepth 20000 in
theorem gX4_hourOn_X4_carts : GoodIn wsX4_hourOn (wsV RX4 93 RX4 yX4_carts wsX4_carts) := goodIn_app (goodIn_of _ (by decide +kernel)) ggX4_hourOn_X4_carts
set_option maxRecDepth 20000 in
theorem ggX4_hourOn_X4_night : GoodIn wsX4_hourOn wsX4_night := goodIn_r _ [29, 3, 4, 5, 6, 7, 13, 30, 31, 32, 11, 33, 34, 17, 18, 19, 20, 21, 22, 23, 24, 25, 35, 36, 37, 38, 44, 45, 46, 47, 48, 49, 50, 51] (by decide +kernel) (by decide +kernel)
set_option maxRecDepth 20000 in
theorem gX4_hourOn_X4_night : GoodIn wsX4_hourOn (wsV RX4 97 RX4 yX4_night wsX4_night) := goodIn_app (goodIn_of _ (by decide +kernel)) ggX4_hourOn_X4_night
set_option maxRecDepth 20000 in
theorem ggX4_hourOn_X4_sh : GoodIn wsX4_hourOn wsX4_sh := goodIn_r _ [33, 34, 44, 45, 46, 47, 48, 49, 50, 51] (by decide +kernel) (by decide +kernel)
set_option maxRecDepth 20000 in
theorem gX4_hourOn_X4_sh : GoodIn wsX4_hourOn (wsV RX4 61 RX4 yX4_sh wsX4_sh) := goodIn_app (goodIn_of _ (by decide +kernel)) ggX4_hourOn_X4_sh
set_option maxRecDepth 20000 in
theorem ggX4_hourOn_X4_put : GoodIn wsX4_hourOn wsX4_put := goodIn_r _ [38, 34, 44, 45, 46, 47, 48, 49, 50, 51] (by decide +kernel) (by decide +kernel)
set_option maxRecDepth 20000 in
theorem gX4_hourOn_X4_put : GoodIn wsX4_hourOn (wsV RX4 70 RX4 yX4_put wsX4_put) := goodIn_app (goodIn_of _ (by decide +kernel)) ggX4_hourOn_X4_put
set_option maxRecDepth 20000 in
theorem ggX4_hourOn_X4_noon : GoodIn wsX4_hourOn wsX4_noon := goodIn_r _ [42, 43, 3, 4, 5, 6, 7, 1, 30, 31, 32, 11, 33, 34, 35, 36, 37, 38, 44, 45, 46, 47, 48, 49, 50, 51] (by decide +kernel) (by decide +kernel)
set_option maxRecDepth 20000 in
theorem gX4_hourOn_X4_noon : GoodIn wsX4_hourOn (wsV RX4 100 RX4 yX4_noon wsX4_noon) := goodIn_app (goodIn_of _ (by decide +kernel)) ggX4_hourOn_X4_noon
theorem dX4_hourOn_0 : decode cX4_hourOn 0 = .ok (.aload_n 0, 1) := by decide +kernel
theorem dX4_hourOn_1 : decode cX4_hourOn 1 = .ok (.getfield 23, 3) := by decide +kernel
theorem dX4_hourOn_4 : decode cX4_hourOn 4 = .ok (.iconst 0, 1) := by decide +kernel
theorem dX4_hourOn_5 : decode cX4_hourOn 5 = .ok (.iaload, 1) := by decide +kernel
theorem dX4_hourOn_6 : decode cX4_hourOn 6 = .ok (.bipush 24, 2) := by decide +kernel
theorem dX4_hourOn_8 : decode cX4_hourOn 8 = .ok (.irem, 1) := by decide +kernel
theorem dX4_hourOn_9 : decode cX4_hourOn 9 = .ok (.istore_n 1, 1) := by decide +kernel
theorem dX4_hourOn_10 : decode cX4_hourOn 10 = .ok (.aload_n 0, 1) := by decide +kernel
theorem dX4_hourOn_11 : decode cX4_hourOn 11 = .ok (.aload_n 0, 1) := by decide +kernel
theorem dX4_hourOn_12 : decode cX4_hourOn 12 = .ok (.getfield 13, 3) := by decide +kernel
theorem dX4_hourOn_15 : decode cX4_hourOn 15 = .ok (.iload_n 1, 1) := by decide +kernel
theorem dX4_hourOn_16 : decode cX4_hourOn 16 = .ok (.iaload, 1) := by decide +kernel
theorem dX4_hourOn_17 : decode cX4_hourOn 17 = .ok (.invokevirtual 93, 3) := by decide +kernel
theorem dX4_hourOn_20 : decode cX4_hourOn 20 = .ok (.iload_n 1, 1) := by decide +kernel
theorem dX4_hourOn_21 : decode cX4_hourOn 21 = .ok (.ifCond .ne 7, 3) := by decide +kernel
theorem dX4_hourOn_24 : decode cX4_hourOn 24 = .ok (.aload_n 0, 1) := by decide +kernel
theorem dX4_hourOn_25 : decode cX4_hourOn 25 = .ok (.invokevirtual 97, 3) := by decide +kernel
theorem dX4_hourOn_28 : decode cX4_hourOn 28 = .ok (.iconst 0, 1) := by decide +kernel
theorem dX4_hourOn_29 : decode cX4_hourOn 29 = .ok (.istore_n 2, 1) := by decide +kernel
theorem dX4_hourOn_30 : decode cX4_hourOn 30 = .ok (.iload_n 2, 1) := by decide +kernel
theorem dX4_hourOn_31 : decode cX4_hourOn 31 = .ok (.aload_n 0, 1) := by decide +kernel
theorem dX4_hourOn_32 : decode cX4_hourOn 32 = .ok (.getfield 36, 3) := by decide +kernel
theorem dX4_hourOn_35 : decode cX4_hourOn 35 = .ok (.if_icmp .ge 76, 3) := by decide +kernel
theorem dX4_hourOn_38 : decode cX4_hourOn 38 = .ok (.aload_n 0, 1) := by decide +kernel
theorem dX4_hourOn_39 : decode cX4_hourOn 39 = .ok (.iload_n 2, 1) := by decide +kernel
theorem dX4_hourOn_40 : decode cX4_hourOn 40 = .ok (.bipush 7, 2) := by decide +kernel
theorem dX4_hourOn_42 : decode cX4_hourOn 42 = .ok (.invokevirtual 61, 3) := by decide +kernel
theorem dX4_hourOn_45 : decode cX4_hourOn 45 = .ok (.iconst 1, 1) := by decide +kernel
theorem dX4_hourOn_46 : decode cX4_hourOn 46 = .ok (.if_icmp .ne 6, 3) := by decide +kernel
theorem dX4_hourOn_49 : decode cX4_hourOn 49 = .ok (.goto 56, 3) := by decide +kernel
theorem dX4_hourOn_52 : decode cX4_hourOn 52 = .ok (.iconst 4, 1) := by decide +kernel
theorem dX4_hourOn_53 : decode cX4_hourOn 53 = .ok (.aload_n 0, 1) := by decide +kernel
theorem dX4_hourOn_54 : decode cX4_hourOn 54 = .ok (.iload_n 2, 1) := by decide +kernel
theorem dX4_hourOn_55 : decode cX4_hourOn 55 = .ok (.iconst 3, 1) := by decide +kernel
theorem dX4_hourOn_56 : decode cX4_hourOn 56 = .ok (.invokevirtual 61, 3) := by decide +kernel
theorem dX4_hourOn_59 : decode cX4_hourOn 59 = .ok (.aload_n 0, 1) := by decide +kernel
theorem dX4_hourOn_60 : decode cX4_hourOn 60 = .ok (.iload_n 2, 1) := by decide +kernel
theorem dX4_hourOn_61 : decode cX4_hourOn 61 = .ok (.iconst 4, 1) := by decide +kernel
theorem dX4_hourOn_62 : decode cX4_hourOn 62 = .ok (.invokevirtual 61, 3) := by decide +kernel
theorem dX4_hourOn_65 : decode cX4_hourOn 65 = .ok (.idiv, 1) := by decide +kernel
theorem dX4_hourOn_66 : decode cX4_hourOn 66 = .ok (.invokestatic 90, 3) := by decide +kernel
theorem dX4_hourOn_69 : decode cX4_hourOn 69 = .ok (.istore_n 3, 1) := by decide +kernel
theorem dX4_hourOn_70 : decode cX4_hourOn 70 = .ok (.aload_n 0, 1) := by decide +kernel
theorem dX4_hourOn_71 : decode cX4_hourOn 71 = .ok (.iload_n 2, 1) := by decide +kernel
theorem dX4_hourOn_72 : decode cX4_hourOn 72 = .ok (.iconst 3, 1) := by decide +kernel
theorem dX4_hourOn_73 : decode cX4_hourOn 73 = .ok (.aload_n 0, 1) := by decide +kernel
theorem dX4_hourOn_74 : decode cX4_hourOn 74 = .ok (.iload_n 2, 1) := by decide +kernel
theorem dX4_hourOn_75 : decode cX4_hourOn 75 = .ok (.iconst 3, 1) := by decide +kernel
theorem dX4_hourOn_76 : decode cX4_hourOn 76 = .ok (.invokevirtual 61, 3) := by decide +kernel
theorem dX4_hourOn_79 : decode cX4_hourOn 79 = .ok (.iload_n 3, 1) := by decide +kernel
theorem dX4_hourOn_80 : decode cX4_hourOn 80 = .ok (.aload_n 0, 1) := by decide +kernel
theorem dX4_hourOn_81 : decode cX4_hourOn 81 = .ok (.iload_n 2, 1) := by decide +kernel
theorem dX4_hourOn_82 : decode cX4_hourOn 82 = .ok (.iconst 4, 1) := by decide +kernel
theorem dX4_hourOn_83 : decode cX4_hourOn 83 = .ok (.invokevirtual 61, 3) := by decide +kernel
theorem dX4_hourOn_86 : decode cX4_hourOn 86 = .ok (.imul, 1) := by decide +kernel
theorem dX4_hourOn_87 : decode cX4_hourOn 87 = .ok (.isub, 1) := by decide +kernel
theorem dX4_hourOn_88 : decode cX4_hourOn 88 = .ok (.invokevirtual 70, 3) := by decide +kernel
theorem dX4_hourOn_91 : decode cX4_hourOn 91 = .ok (.aload_n 0, 1) := by decide +kernel
theorem dX4_hourOn_92 : decode cX4_hourOn 92 = .ok (.iload_n 2, 1) := by decide +kernel
theorem dX4_hourOn_93 : decode cX4_hourOn 93 = .ok (.iconst 5, 1) := by decide +kernel
theorem dX4_hourOn_94 : decode cX4_hourOn 94 = .ok (.aload_n 0, 1) := by decide +kernel
theorem dX4_hourOn_95 : decode cX4_hourOn 95 = .ok (.iload_n 2, 1) := by decide +kernel
theorem dX4_hourOn_96 : decode cX4_hourOn 96 = .ok (.iconst 5, 1) := by decide +kernel
theorem dX4_hourOn_97 : decode cX4_hourOn 97 = .ok (.invokevirtual 61, 3) := by decide +kernel
theorem dX4_hourOn_100 : decode cX4_hourOn 100 = .ok (.iload_n 3, 1) := by decide +kernel
theorem dX4_hourOn_101 : decode cX4_hourOn 101 = .ok (.iadd, 1) := by decide +kernel
theorem dX4_hourOn_102 : decode cX4_hourOn 102 = .ok (.invokevirtual 70, 3) := by decide +kernel
theorem dX4_hourOn_105 : decode cX4_hourOn 105 = .ok (.iinc 2 1, 3) := by decide +kernel
theorem dX4_hourOn_108 : decode cX4_hourOn 108 = .ok (.goto (-78), 3) := by decide +kernel
theorem dX4_hourOn_111 : decode cX4_hourOn 111 = .ok (.iload_n 1, 1) := by decide +kernel
theorem dX4_hourOn_112 : decode cX4_hourOn 112 = .ok (.bipush 12, 2) := by decide +kernel
theorem dX4_hourOn_114 : decode cX4_hourOn 114 = .ok (.if_icmp .ne 7, 3) := by decide +kernel
theorem dX4_hourOn_117 : decode cX4_hourOn 117 = .ok (.aload_n 0, 1) := by decide +kernel
theorem dX4_hourOn_118 : decode cX4_hourOn 118 = .ok (.invokevirtual 100, 3) := by decide +kernel
theorem dX4_hourOn_121 : decode cX4_hourOn 121 = .ok (.aload_n 0, 1) := by decide +kernel
theorem dX4_hourOn_122 : decode cX4_hourOn 122 = .ok (.getfield 23, 3) := by decide +kernel
theorem dX4_hourOn_125 : decode cX4_hourOn 125 = .ok (.iconst 0, 1) := by decide +kernel
theorem dX4_hourOn_126 : decode cX4_hourOn 126 = .ok (.dup2, 1) := by decide +kernel
theorem dX4_hourOn_127 : decode cX4_hourOn 127 = .ok (.iaload, 1) := by decide +kernel
theorem dX4_hourOn_128 : decode cX4_hourOn 128 = .ok (.iconst 1, 1) := by decide +kernel
theorem dX4_hourOn_129 : decode cX4_hourOn 129 = .ok (.iadd, 1) := by decide +kernel
theorem dX4_hourOn_130 : decode cX4_hourOn 130 = .ok (.iastore, 1) := by decide +kernel
theorem dX4_hourOn_131 : decode cX4_hourOn 131 = .ok (.return_, 1) := by decide +kernel
set_option maxRecDepth 20000 in
theorem ggX4_hoursOn_X4_hourOn : GoodIn wsX4_hoursOn wsX4_hourOn := goodIn_r _ [5, 6, 7, 8, 9, 10, 11, 12, 13, 14, 15, 4, 16, 17, 18, 19, 20, 21, 22, 23, 24, 25, 26, 27, 28, 29, 30, 31, 32, 33, 34, 35, 36, 37, 38, 39, 40, 41, 42, 43, 44, 45, 46, 47, 48, 49, 50, 51, 52, 53, 54, 55] (by decide +kernel) (by decide +kernel)
set_option maxRecDepth 20000 in
theorem gX4_hoursOn_X4_hourOn : GoodIn wsX4_hoursOn (wsV RX4 103 RX4 yX4_hourOn wsX4_hourOn) := goodIn_app (goodIn_of _ (by decide +kernel)) ggX4_hoursOn_X4_hourOn
theorem dX4_hoursOn_0 : decode cX4_hoursOn 0 = .ok (.iconst 0, 1) := by decide +kernel
theorem dX4_hoursOn_1 : decode cX4_hoursOn 1 = .ok (.istore_n 2, 1) := by decide +kernel
theorem dX4_hoursOn_2 : decode cX4_hoursOn 2 = .ok (.iload_n 2, 1) := by decide +kernel
theorem dX4_hoursOn_3 : decode cX4_hoursOn 3 = .ok (.iload_n 1, 1) := by decide +kernel
theorem dX4_hoursOn_4 : decode cX4_hoursOn 4 = .ok (.if_icmp .ge 13, 3) := by decide +kernel
theorem dX4_hoursOn_7 : decode cX4_hoursOn 7 = .ok (.aload_n 0, 1) := by decide +kernel
theorem dX4_hoursOn_8 : decode cX4_hoursOn 8 = .ok (.invokevirtual 103, 3) := by decide +kernel
theorem dX4_hoursOn_11 : decode cX4_hoursOn 11 = .ok (.iinc 2 1, 3) := by decide +kernel
theorem dX4_hoursOn_14 : decode cX4_hoursOn 14 = .ok (.goto (-12), 3) := by decide +kernel
theorem dX4_hoursOn_17 : decode cX4_hoursOn 17 = .ok (.return_, 1) := by decide +kernel
set_option maxRecDepth 20000 in
theorem ggX4_pass_X4_isIn : GoodIn wsX4_pass wsX4_isIn := goodIn_r _ [6] (by decide +kernel) (by decide +kernel)
set_option maxRecDepth 20000 in
theorem gX4_pass_X4_isIn : GoodIn wsX4_pass (va_wsS RX4 32 yX4_isIn wsX4_isIn) := goodIn_app (goodIn_of _ (by decide +kernel)) ggX4_pass_X4_isIn
set_option maxRecDepth 20000 in
theorem ggX4_pass_X4_fail : GoodIn wsX4_pass wsX4_fail := goodIn_r _ [10, 1, 60, 61, 62, 63, 64, 65, 66, 67] (by decide +kernel) (by decide +kernel)
set_option maxRecDepth 20000 in
theorem gX4_pass_X4_fail : GoodIn wsX4_pass (wsV RX4 39 RX4 yX4_fail wsX4_fail) := goodIn_app (goodIn_of _ (by decide +kernel)) ggX4_pass_X4_fail
set_option maxRecDepth 20000 in
theorem ggX4_pass_X4_hoursOn : GoodIn wsX4_pass wsX4_hoursOn := goodIn_r _ [14, 15, 16, 17, 5, 18, 2, 19, 20, 21, 22, 23, 24, 25, 26, 27, 28, 29, 30, 31, 32, 33, 34, 35, 36, 37, 38, 39, 40, 41, 42, 43, 44, 45, 46, 47, 48, 49, 50, 51, 52, 53, 54, 55, 56, 57, 58, 59, 60, 61, 62, 63, 64, 65, 66, 67] (by decide +kernel) (by decide +kernel)
set_option maxRecDepth 20000 in
theorem gX4_pass_X4_hoursOn : GoodIn wsX4_pass (wsV RX4 106 RX4 yX4_hoursOn wsX4_hoursOn) := goodIn_app (goodIn_of _ (by decide +kernel)) ggX4_pass_X4_hoursOn
theorem dX4_pass_0 : decode cX4_pass 0 = .ok (.aload_n 0, 1) := by decide +kernel
theorem dX4_pass_1 : decode cX4_pass 1 = .ok (.iconst 0, 1) := by decide +kernel
theorem dX4_pass_2 : decode cX4_pass 2 = .ok (.putfield 26, 3) := by decide +kernel
theorem dX4_pass_5 : decode cX4_pass 5 = .ok (.iload_n 1, 1) := by decide +kernel
theorem dX4_pass_6 : decode cX4_pass 6 = .ok (.iconst 1, 1) := by decide +kernel
theorem dX4_pass_7 : decode cX4_pass 7 = .ok (.sipush 240, 3) := by decide +kernel
theorem dX4_pass_10 : decode cX4_pass 10 = .ok (.invokestatic 32, 3) := by decide +kernel
theorem dX4_pass_13 : decode cX4_pass 13 = .ok (.ifCond .ne 9, 3) := by decide +kernel
theorem dX4_pass_16 : decode cX4_pass 16 = .ok (.aload_n 0, 1) := by decide +kernel
theorem dX4_pass_17 : decode cX4_pass 17 = .ok (.iconst 1, 1) := by decide +kernel
theorem dX4_pass_18 : decode cX4_pass 18 = .ok (.invokevirtual 39, 3) := by decide +kernel
theorem dX4_pass_21 : decode cX4_pass 21 = .ok (.ireturn, 1) := by decide +kernel
theorem dX4_pass_22 : decode cX4_pass 22 = .ok (.aload_n 0, 1) := by decide +kernel
theorem dX4_pass_23 : decode cX4_pass 23 = .ok (.getfield 23, 3) := by decide +kernel
theorem dX4_pass_26 : decode cX4_pass 26 = .ok (.iconst 3, 1) := by decide +kernel
theorem dX4_pass_27 : decode cX4_pass 27 = .ok (.iaload, 1) := by decide +kernel
theorem dX4_pass_28 : decode cX4_pass 28 = .ok (.istore_n 2, 1) := by decide +kernel
theorem dX4_pass_29 : decode cX4_pass 29 = .ok (.aload_n 0, 1) := by decide +kernel
theorem dX4_pass_30 : decode cX4_pass 30 = .ok (.iload_n 1, 1) := by decide +kernel
theorem dX4_pass_31 : decode cX4_pass 31 = .ok (.invokevirtual 106, 3) := by decide +kernel
theorem dX4_pass_34 : decode cX4_pass 34 = .ok (.aload_n 0, 1) := by decide +kernel
theorem dX4_pass_35 : decode cX4_pass 35 = .ok (.getfield 23, 3) := by decide +kernel
theorem dX4_pass_38 : decode cX4_pass 38 = .ok (.iconst 3, 1) := by decide +kernel
theorem dX4_pass_39 : decode cX4_pass 39 = .ok (.iaload, 1) := by decide +kernel
theorem dX4_pass_40 : decode cX4_pass 40 = .ok (.iload_n 2, 1) := by decide +kernel
theorem dX4_pass_41 : decode cX4_pass 41 = .ok (.isub, 1) := by decide +kernel
theorem dX4_pass_42 : decode cX4_pass 42 = .ok (.ireturn, 1) := by decide +kernel
theorem dX4_kept_0 : decode cX4_kept 0 = .ok (.iconst 3, 1) := by decide +kernel
theorem dX4_kept_1 : decode cX4_kept 1 = .ok (.anewarray 109, 3) := by decide +kernel
theorem dX4_kept_4 : decode cX4_kept 4 = .ok (.dup, 1) := by decide +kernel
theorem dX4_kept_5 : decode cX4_kept 5 = .ok (.iconst 0, 1) := by decide +kernel
theorem dX4_kept_6 : decode cX4_kept 6 = .ok (.aload_n 0, 1) := by decide +kernel
theorem dX4_kept_7 : decode cX4_kept 7 = .ok (.getfield 17, 3) := by decide +kernel
theorem dX4_kept_10 : decode cX4_kept 10 = .ok (.invokevirtual 110, 3) := by decide +kernel
theorem dX4_kept_13 : decode cX4_kept 13 = .ok (.checkcast 109, 3) := by decide +kernel
theorem dX4_kept_16 : decode cX4_kept 16 = .ok (.aastore, 1) := by decide +kernel
theorem dX4_kept_17 : decode cX4_kept 17 = .ok (.dup, 1) := by decide +kernel
theorem dX4_kept_18 : decode cX4_kept 18 = .ok (.iconst 1, 1) := by decide +kernel
theorem dX4_kept_19 : decode cX4_kept 19 = .ok (.aload_n 0, 1) := by decide +kernel
theorem dX4_kept_20 : decode cX4_kept 20 = .ok (.getfield 20, 3) := by decide +kernel
theorem dX4_kept_23 : decode cX4_kept 23 = .ok (.invokevirtual 110, 3) := by decide +kernel
theorem dX4_kept_26 : decode cX4_kept 26 = .ok (.checkcast 109, 3) := by decide +kernel
theorem dX4_kept_29 : decode cX4_kept 29 = .ok (.aastore, 1) := by decide +kernel
theorem dX4_kept_30 : decode cX4_kept 30 = .ok (.dup, 1) := by decide +kernel
theorem dX4_kept_31 : decode cX4_kept 31 = .ok (.iconst 2, 1) := by decide +kernel
theorem dX4_kept_32 : decode cX4_kept 32 = .ok (.aload_n 0, 1) := by decide +kernel
theorem dX4_kept_33 : decode cX4_kept 33 = .ok (.getfield 23, 3) := by decide +kernel
theorem dX4_kept_36 : decode cX4_kept 36 = .ok (.invokevirtual 110, 3) := by decide +kernel
theorem dX4_kept_39 : decode cX4_kept 39 = .ok (.checkcast 109, 3) := by decide +kernel
theorem dX4_kept_42 : decode cX4_kept 42 = .ok (.aastore, 1) := by decide +kernel
theorem dX4_kept_43 : decode cX4_kept 43 = .ok (.areturn, 1) := by decide +kernel
theorem dX4_bringBack_0 : decode cX4_bringBack 0 = .ok (.aload_n 1, 1) := by decide +kernel
theorem dX4_bringBack_1 : decode cX4_bringBack 1 = .ok (.iconst 0, 1) := by decide +kernel
theorem dX4_bringBack_2 : decode cX4_bringBack 2 = .ok (.aaload, 1) := by decide +kernel
theorem dX4_bringBack_3 : decode cX4_bringBack 3 = .ok (.iconst 0, 1) := by decide +kernel
theorem dX4_bringBack_4 : decode cX4_bringBack 4 = .ok (.aload_n 0, 1) := by decide +kernel
theorem dX4_bringBack_5 : decode cX4_bringBack 5 = .ok (.getfield 17, 3) := by decide +kernel
theorem dX4_bringBack_8 : decode cX4_bringBack 8 = .ok (.iconst 0, 1) := by decide +kernel
theorem dX4_bringBack_9 : decode cX4_bringBack 9 = .ok (.aload_n 0, 1) := by decide +kernel
theorem dX4_bringBack_10 : decode cX4_bringBack 10 = .ok (.getfield 17, 3) := by decide +kernel
theorem dX4_bringBack_13 : decode cX4_bringBack 13 = .ok (.arraylength, 1) := by decide +kernel
theorem dX4_bringBack_14 : decode cX4_bringBack 14 = .ok (.invokestatic 43, 3) := by decide +kernel
theorem dX4_bringBack_17 : decode cX4_bringBack 17 = .ok (.aload_n 1, 1) := by decide +kernel
theorem dX4_bringBack_18 : decode cX4_bringBack 18 = .ok (.iconst 1, 1) := by decide +kernel
theorem dX4_bringBack_19 : decode cX4_bringBack 19 = .ok (.aaload, 1) := by decide +kernel
theorem dX4_bringBack_20 : decode cX4_bringBack 20 = .ok (.iconst 0, 1) := by decide +kernel
theorem dX4_bringBack_21 : decode cX4_bringBack 21 = .ok (.aload_n 0, 1) := by decide +kernel
theorem dX4_bringBack_22 : decode cX4_bringBack 22 = .ok (.getfield 20, 3) := by decide +kernel
theorem dX4_bringBack_25 : decode cX4_bringBack 25 = .ok (.iconst 0, 1) := by decide +kernel
theorem dX4_bringBack_26 : decode cX4_bringBack 26 = .ok (.aload_n 0, 1) := by decide +kernel
theorem dX4_bringBack_27 : decode cX4_bringBack 27 = .ok (.getfield 20, 3) := by decide +kernel
theorem dX4_bringBack_30 : decode cX4_bringBack 30 = .ok (.arraylength, 1) := by decide +kernel
theorem dX4_bringBack_31 : decode cX4_bringBack 31 = .ok (.invokestatic 43, 3) := by decide +kernel
theorem dX4_bringBack_34 : decode cX4_bringBack 34 = .ok (.aload_n 1, 1) := by decide +kernel
theorem dX4_bringBack_35 : decode cX4_bringBack 35 = .ok (.iconst 2, 1) := by decide +kernel
theorem dX4_bringBack_36 : decode cX4_bringBack 36 = .ok (.aaload, 1) := by decide +kernel
theorem dX4_bringBack_37 : decode cX4_bringBack 37 = .ok (.iconst 0, 1) := by decide +kernel
theorem dX4_bringBack_38 : decode cX4_bringBack 38 = .ok (.aload_n 0, 1) := by decide +kernel
theorem dX4_bringBack_39 : decode cX4_bringBack 39 = .ok (.getfield 23, 3) := by decide +kernel
theorem dX4_bringBack_42 : decode cX4_bringBack 42 = .ok (.iconst 0, 1) := by decide +kernel
theorem dX4_bringBack_43 : decode cX4_bringBack 43 = .ok (.aload_n 0, 1) := by decide +kernel
theorem dX4_bringBack_44 : decode cX4_bringBack 44 = .ok (.getfield 23, 3) := by decide +kernel
theorem dX4_bringBack_47 : decode cX4_bringBack 47 = .ok (.arraylength, 1) := by decide +kernel
theorem dX4_bringBack_48 : decode cX4_bringBack 48 = .ok (.invokestatic 43, 3) := by decide +kernel
theorem dX4_bringBack_51 : decode cX4_bringBack 51 = .ok (.return_, 1) := by decide +kernel
set_option maxRecDepth 20000 in
theorem ggX4_lasts_X4_kept : GoodIn wsX4_lasts wsX4_kept := goodIn_r _ [7, 8, 9, 10, 11, 12, 13, 14, 15, 2, 67, 68, 69, 70, 71, 72, 73, 74] (by decide +kernel) (by decide +kernel)
set_option maxRecDepth 20000 in
theorem gX4_lasts_X4_kept : GoodIn wsX4_lasts (wsV RX4 114 RX4 yX4_kept wsX4_kept) := goodIn_app (goodIn_of _ (by decide +kernel)) ggX4_lasts_X4_kept
set_option maxRecDepth 20000 in
theorem ggX4_lasts_X4_hourOn : GoodIn wsX4_lasts wsX4_hourOn := goodIn_r _ [19, 2, 20, 21, 22, 23, 24, 25, 26, 27, 28, 6, 29, 30, 31, 32, 33, 34, 35, 36, 37, 9, 38, 39, 40, 41, 42, 43, 44, 45, 46, 47, 48, 49, 15, 50, 51, 52, 53, 54, 55, 56, 57, 58, 67, 68, 69, 70, 71, 72, 73, 74] (by decide +kernel) (by decide +kernel)
set_option maxRecDepth 20000 in
theorem gX4_lasts_X4_hourOn : GoodIn wsX4_lasts (wsV RX4 103 RX4 yX4_hourOn wsX4_hourOn) := goodIn_app (goodIn_of _ (by decide +kernel)) ggX4_lasts_X4_hourOn
set_option maxRecDepth 20000 in
theorem ggX4_lasts_X4_bringBack : GoodIn wsX4_lasts wsX4_bringBack := goodIn_r _ [62, 9, 63, 64, 65, 66, 15, 2, 67, 68, 69, 70, 71, 72, 73, 74] (by decide +kernel) (by decide +kernel)
set_option maxRecDepth 20000 in
theorem gX4_lasts_X4_bringBack : GoodIn wsX4_lasts (wsV RX4 118 RX4 yX4_bringBack wsX4_bringBack) := goodIn_app (goodIn_of _ (by decide +kernel)) ggX4_lasts_X4_bringBack
theorem dX4_lasts_0 : decode cX4_lasts 0 = .ok (.aload_n 0, 1) := by decide +kernel
theorem dX4_lasts_1 : decode cX4_lasts 1 = .ok (.iconst 0, 1) := by decide +kernel
theorem dX4_lasts_2 : decode cX4_lasts 2 = .ok (.putfield 26, 3) := by decide +kernel
theorem dX4_lasts_5 : decode cX4_lasts 5 = .ok (.aload_n 0, 1) := by decide +kernel
theorem dX4_lasts_6 : decode cX4_lasts 6 = .ok (.invokevirtual 114, 3) := by decide +kernel
theorem dX4_lasts_9 : decode cX4_lasts 9 = .ok (.astore_n 1, 1) := by decide +kernel
theorem dX4_lasts_10 : decode cX4_lasts 10 = .ok (.aload_n 0, 1) := by decide +kernel
theorem dX4_lasts_11 : decode cX4_lasts 11 = .ok (.getfield 23, 3) := by decide +kernel
theorem dX4_lasts_14 : decode cX4_lasts 14 = .ok (.iconst 3, 1) := by decide +kernel
theorem dX4_lasts_15 : decode cX4_lasts 15 = .ok (.iaload, 1) := by decide +kernel
theorem dX4_lasts_16 : decode cX4_lasts 16 = .ok (.istore_n 2, 1) := by decide +kernel
theorem dX4_lasts_17 : decode cX4_lasts 17 = .ok (.iconst 0, 1) := by decide +kernel
theorem dX4_lasts_18 : decode cX4_lasts 18 = .ok (.istore_n 3, 1) := by decide +kernel
theorem dX4_lasts_19 : decode cX4_lasts 19 = .ok (.iload_n 3, 1) := by decide +kernel
theorem dX4_lasts_20 : decode cX4_lasts 20 = .ok (.sipush 480, 3) := by decide +kernel
theorem dX4_lasts_23 : decode cX4_lasts 23 = .ok (.if_icmp .ge 23, 3) := by decide +kernel
theorem dX4_lasts_26 : decode cX4_lasts 26 = .ok (.aload_n 0, 1) := by decide +kernel
theorem dX4_lasts_27 : decode cX4_lasts 27 = .ok (.getfield 23, 3) := by decide +kernel
theorem dX4_lasts_30 : decode cX4_lasts 30 = .ok (.iconst 3, 1) := by decide +kernel
theorem dX4_lasts_31 : decode cX4_lasts 31 = .ok (.iaload, 1) := by decide +kernel
theorem dX4_lasts_32 : decode cX4_lasts 32 = .ok (.iload_n 2, 1) := by decide +kernel
theorem dX4_lasts_33 : decode cX4_lasts 33 = .ok (.if_icmp .ne 13, 3) := by decide +kernel
theorem dX4_lasts_36 : decode cX4_lasts 36 = .ok (.aload_n 0, 1) := by decide +kernel
theorem dX4_lasts_37 : decode cX4_lasts 37 = .ok (.invokevirtual 103, 3) := by decide +kernel
theorem dX4_lasts_40 : decode cX4_lasts 40 = .ok (.iinc 3 1, 3) := by decide +kernel
theorem dX4_lasts_43 : decode cX4_lasts 43 = .ok (.goto (-24), 3) := by decide +kernel
theorem dX4_lasts_46 : decode cX4_lasts 46 = .ok (.aload_n 0, 1) := by decide +kernel
theorem dX4_lasts_47 : decode cX4_lasts 47 = .ok (.getfield 23, 3) := by decide +kernel
theorem dX4_lasts_50 : decode cX4_lasts 50 = .ok (.iconst 3, 1) := by decide +kernel
theorem dX4_lasts_51 : decode cX4_lasts 51 = .ok (.iaload, 1) := by decide +kernel
theorem dX4_lasts_52 : decode cX4_lasts 52 = .ok (.iload_n 2, 1) := by decide +kernel
theorem dX4_lasts_53 : decode cX4_lasts 53 = .ok (.if_icmp .ne 5, 3) := by decide +kernel
theorem dX4_lasts_56 : decode cX4_lasts 56 = .ok (.iconst (-1), 1) := by decide +kernel
theorem dX4_lasts_57 : decode cX4_lasts 57 = .ok (.istore_n 3, 1) := by decide +kernel
theorem dX4_lasts_58 : decode cX4_lasts 58 = .ok (.aload_n 0, 1) := by decide +kernel
theorem dX4_lasts_59 : decode cX4_lasts 59 = .ok (.aload_n 1, 1) := by decide +kernel
theorem dX4_lasts_60 : decode cX4_lasts 60 = .ok (.invokevirtual 118, 3) := by decide +kernel
theorem dX4_lasts_63 : decode cX4_lasts 63 = .ok (.iload_n 3, 1) := by decide +kernel
theorem dX4_lasts_64 : decode cX4_lasts 64 = .ok (.ireturn, 1) := by decide +kernel
set_option maxRecDepth 20000 in
theorem ggX4_foresee_X4_isIn : GoodIn wsX4_foresee wsX4_isIn := goodIn_r _ [6] (by decide +kernel) (by decide +kernel)
set_option maxRecDepth 20000 in
theorem gX4_foresee_X4_isIn : GoodIn wsX4_foresee (va_wsS RX4 32 yX4_isIn wsX4_isIn) := goodIn_app (goodIn_of _ (by decide +kernel)) ggX4_foresee_X4_isIn
set_option maxRecDepth 20000 in
theorem ggX4_foresee_X4_fail : GoodIn wsX4_foresee wsX4_fail := goodIn_r _ [10, 1, 86, 87, 88, 89, 90, 91, 92, 93] (by decide +kernel) (by decide +kernel)
set_option maxRecDepth 20000 in
theorem gX4_foresee_X4_fail : GoodIn wsX4_foresee (wsV RX4 39 RX4 yX4_fail wsX4_fail) := goodIn_app (goodIn_of _ (by decide +kernel)) ggX4_foresee_X4_fail
set_option maxRecDepth 20000 in
theorem ggX4_foresee_X4_kept : GoodIn wsX4_foresee wsX4_kept := goodIn_r _ [14, 15, 16, 17, 18, 19, 20, 21, 22, 2, 86, 87, 88, 89, 90, 91, 92, 93] (by decide +kernel) (by decide +kernel)
set_option maxRecDepth 20000 in
theorem gX4_foresee_X4_kept : GoodIn wsX4_foresee (wsV RX4 114 RX4 yX4_kept wsX4_kept) := goodIn_app (goodIn_of _ (by decide +kernel)) ggX4_foresee_X4_kept
set_option maxRecDepth 20000 in
theorem ggX4_foresee_X4_hoursOn : GoodIn wsX4_foresee wsX4_hoursOn := goodIn_r _ [26, 27, 28, 29, 5, 30, 2, 31, 32, 33, 34, 35, 36, 37, 38, 39, 40, 41, 42, 43, 44, 45, 46, 47, 48, 16, 49, 50, 51, 52, 53, 54, 55, 56, 57, 58, 59, 60, 22, 61, 62, 63, 64, 65, 66, 67, 68, 69, 86, 87, 88, 89, 90, 91, 92, 93] (by decide +kernel) (by decide +kernel)
set_option maxRecDepth 20000 in
theorem gX4_foresee_X4_hoursOn : GoodIn wsX4_foresee (wsV RX4 106 RX4 yX4_hoursOn wsX4_hoursOn) := goodIn_app (goodIn_of _ (by decide +kernel)) ggX4_foresee_X4_hoursOn
set_option maxRecDepth 20000 in
theorem ggX4_foresee_X4_allBakers : GoodIn wsX4_foresee wsX4_allBakers := goodIn_r _ [73, 32, 57, 58, 59, 5, 60, 22, 86, 87, 88, 89, 90, 91, 92, 93] (by decide +kernel) (by decide +kernel)
set_option maxRecDepth 20000 in
theorem gX4_foresee_X4_allBakers : GoodIn wsX4_foresee (wsV RX4 84 RX4 yX4_allBakers wsX4_allBakers) := goodIn_app (goodIn_of _ (by decide +kernel)) ggX4_foresee_X4_allBakers
set_option maxRecDepth 20000 in
theorem ggX4_foresee_X4_allStores : GoodIn wsX4_foresee wsX4_allStores := goodIn_r _ [77, 41, 45, 46, 47, 5, 48, 16, 86, 87, 88, 89, 90, 91, 92, 93] (by decide +kernel) (by decide +kernel)
set_option maxRecDepth 20000 in
theorem gX4_foresee_X4_allStores : GoodIn wsX4_foresee (wsV RX4 81 RX4 yX4_allStores wsX4_allStores) := goodIn_app (goodIn_of _ (by decide +kernel)) ggX4_foresee_X4_allStores
set_option maxRecDepth 20000 in
theorem ggX4_foresee_X4_bringBack : GoodIn wsX4_foresee wsX4_bringBack := goodIn_r _ [81, 16, 82, 83, 84, 85, 22, 2, 86, 87, 88, 89, 90, 91, 92, 93] (by decide +kernel) (by decide +kernel)
set_option maxRecDepth 20000 in
theorem gX4_foresee_X4_bringBack : GoodIn wsX4_foresee (wsV RX4 118 RX4 yX4_bringBack wsX4_bringBack) := goodIn_app (goodIn_of _ (by decide +kernel)) ggX4_foresee_X4_bringBack
theorem dX4_foresee_0 : decode cX4_foresee 0 = .ok (.aload_n 0, 1) := by decide +kernel
theorem dX4_foresee_1 : decode cX4_foresee 1 = .ok (.iconst 0, 1) := by decide +kernel
theorem dX4_foresee_2 : decode cX4_foresee 2 = .ok (.putfield 26, 3) := by decide +kernel
theorem dX4_foresee_5 : decode cX4_foresee 5 = .ok (.iload_n 1, 1) := by decide +kernel
theorem dX4_foresee_6 : decode cX4_foresee 6 = .ok (.iconst 1, 1) := by decide +kernel
theorem dX4_foresee_7 : decode cX4_foresee 7 = .ok (.sipush 240, 3) := by decide +kernel
theorem dX4_foresee_10 : decode cX4_foresee 10 = .ok (.invokestatic 32, 3) := by decide +kernel
theorem dX4_foresee_13 : decode cX4_foresee 13 = .ok (.ifCond .ne 9, 3) := by decide +kernel
theorem dX4_foresee_16 : decode cX4_foresee 16 = .ok (.aload_n 0, 1) := by decide +kernel
theorem dX4_foresee_17 : decode cX4_foresee 17 = .ok (.iconst 1, 1) := by decide +kernel
theorem dX4_foresee_18 : decode cX4_foresee 18 = .ok (.invokevirtual 39, 3) := by decide +kernel
theorem dX4_foresee_21 : decode cX4_foresee 21 = .ok (.ireturn, 1) := by decide +kernel
theorem dX4_foresee_22 : decode cX4_foresee 22 = .ok (.iload_n 2, 1) := by decide +kernel
theorem dX4_foresee_23 : decode cX4_foresee 23 = .ok (.iconst 0, 1) := by decide +kernel
theorem dX4_foresee_24 : decode cX4_foresee 24 = .ok (.iconst 3, 1) := by decide +kernel
theorem dX4_foresee_25 : decode cX4_foresee 25 = .ok (.invokestatic 32, 3) := by decide +kernel
theorem dX4_foresee_28 : decode cX4_foresee 28 = .ok (.ifCond .ne 9, 3) := by decide +kernel
theorem dX4_foresee_31 : decode cX4_foresee 31 = .ok (.aload_n 0, 1) := by decide +kernel
theorem dX4_foresee_32 : decode cX4_foresee 32 = .ok (.iconst 2, 1) := by decide +kernel
theorem dX4_foresee_33 : decode cX4_foresee 33 = .ok (.invokevirtual 39, 3) := by decide +kernel
theorem dX4_foresee_36 : decode cX4_foresee 36 = .ok (.ireturn, 1) := by decide +kernel
theorem dX4_foresee_37 : decode cX4_foresee 37 = .ok (.aload_n 0, 1) := by decide +kernel
theorem dX4_foresee_38 : decode cX4_foresee 38 = .ok (.invokevirtual 114, 3) := by decide +kernel
theorem dX4_foresee_41 : decode cX4_foresee 41 = .ok (.astore_n 3, 1) := by decide +kernel
theorem dX4_foresee_42 : decode cX4_foresee 42 = .ok (.aload_n 0, 1) := by decide +kernel
theorem dX4_foresee_43 : decode cX4_foresee 43 = .ok (.getfield 23, 3) := by decide +kernel
theorem dX4_foresee_46 : decode cX4_foresee 46 = .ok (.iconst 3, 1) := by decide +kernel
theorem dX4_foresee_47 : decode cX4_foresee 47 = .ok (.iaload, 1) := by decide +kernel
theorem dX4_foresee_48 : decode cX4_foresee 48 = .ok (.istore 4, 2) := by decide +kernel
theorem dX4_foresee_50 : decode cX4_foresee 50 = .ok (.aload_n 0, 1) := by decide +kernel
theorem dX4_foresee_51 : decode cX4_foresee 51 = .ok (.iload_n 1, 1) := by decide +kernel
theorem dX4_foresee_52 : decode cX4_foresee 52 = .ok (.invokevirtual 106, 3) := by decide +kernel
theorem dX4_foresee_55 : decode cX4_foresee 55 = .ok (.iload_n 2, 1) := by decide +kernel
theorem dX4_foresee_56 : decode cX4_foresee 56 = .ok (.ifCond .ne 15, 3) := by decide +kernel
theorem dX4_foresee_59 : decode cX4_foresee 59 = .ok (.aload_n 0, 1) := by decide +kernel
theorem dX4_foresee_60 : decode cX4_foresee 60 = .ok (.getfield 23, 3) := by decide +kernel
theorem dX4_foresee_63 : decode cX4_foresee 63 = .ok (.iconst 3, 1) := by decide +kernel
theorem dX4_foresee_64 : decode cX4_foresee 64 = .ok (.iaload, 1) := by decide +kernel
theorem dX4_foresee_65 : decode cX4_foresee 65 = .ok (.iload 4, 2) := by decide +kernel
theorem dX4_foresee_67 : decode cX4_foresee 67 = .ok (.isub, 1) := by decide +kernel
theorem dX4_foresee_68 : decode cX4_foresee 68 = .ok (.goto 30, 3) := by decide +kernel
theorem dX4_foresee_71 : decode cX4_foresee 71 = .ok (.iload_n 2, 1) := by decide +kernel
theorem dX4_foresee_72 : decode cX4_foresee 72 = .ok (.iconst 2, 1) := by decide +kernel
theorem dX4_foresee_73 : decode cX4_foresee 73 = .ok (.if_icmp .ne 11, 3) := by decide +kernel
theorem dX4_foresee_76 : decode cX4_foresee 76 = .ok (.aload_n 0, 1) := by decide +kernel
theorem dX4_foresee_77 : decode cX4_foresee 77 = .ok (.iconst 5, 1) := by decide +kernel
theorem dX4_foresee_78 : decode cX4_foresee 78 = .ok (.invokevirtual 84, 3) := by decide +kernel
theorem dX4_foresee_81 : decode cX4_foresee 81 = .ok (.goto 17, 3) := by decide +kernel
theorem dX4_foresee_84 : decode cX4_foresee 84 = .ok (.aload_n 0, 1) := by decide +kernel
theorem dX4_foresee_85 : decode cX4_foresee 85 = .ok (.iload_n 2, 1) := by decide +kernel
theorem dX4_foresee_86 : decode cX4_foresee 86 = .ok (.iconst 1, 1) := by decide +kernel
theorem dX4_foresee_87 : decode cX4_foresee 87 = .ok (.if_icmp .ne 7, 3) := by decide +kernel
theorem dX4_foresee_90 : decode cX4_foresee 90 = .ok (.iconst 0, 1) := by decide +kernel
theorem dX4_foresee_91 : decode cX4_foresee 91 = .ok (.goto 4, 3) := by decide +kernel
theorem dX4_foresee_94 : decode cX4_foresee 94 = .ok (.iconst 1, 1) := by decide +kernel
theorem dX4_foresee_95 : decode cX4_foresee 95 = .ok (.invokevirtual 81, 3) := by decide +kernel
theorem dX4_foresee_98 : decode cX4_foresee 98 = .ok (.istore 5, 2) := by decide +kernel
theorem dX4_foresee_100 : decode cX4_foresee 100 = .ok (.aload_n 0, 1) := by decide +kernel
theorem dX4_foresee_101 : decode cX4_foresee 101 = .ok (.aload_n 3, 1) := by decide +kernel
theorem dX4_foresee_102 : decode cX4_foresee 102 = .ok (.invokevirtual 118, 3) := by decide +kernel
theorem dX4_foresee_105 : decode cX4_foresee 105 = .ok (.iload 5, 2) := by decide +kernel
theorem dX4_foresee_107 : decode cX4_foresee 107 = .ok (.ireturn, 1) := by decide +kernel
set_option maxRecDepth 20000 in
theorem ggX4_advise_X4_isBaker : GoodIn wsX4_advise wsX4_isBaker := goodIn_r _ [7, 8, 9, 10, 6, 11, 82, 83, 84, 85, 86, 87, 88, 89] (by decide +kernel) (by decide +kernel)
set_option maxRecDepth 20000 in
theorem gX4_advise_X4_isBaker : GoodIn wsX4_advise (wsV RX4 67 RX4 yX4_isBaker wsX4_isBaker) := goodIn_app (goodIn_of _ (by decide +kernel)) ggX4_advise_X4_isBaker
set_option maxRecDepth 20000 in
theorem ggX4_advise_X4_fail : GoodIn wsX4_advise wsX4_fail := goodIn_r _ [15, 1, 82, 83, 84, 85, 86, 87, 88, 89] (by decide +kernel) (by decide +kernel)
set_option maxRecDepth 20000 in
theorem gX4_advise_X4_fail : GoodIn wsX4_advise (wsV RX4 39 RX4 yX4_fail wsX4_fail) := goodIn_app (goodIn_of _ (by decide +kernel)) ggX4_advise_X4_fail
set_option maxRecDepth 20000 in
theorem ggX4_advise_X4_isIn : GoodIn wsX4_advise wsX4_isIn := goodIn_r _ [11] (by decide +kernel) (by decide +kernel)
set_option maxRecDepth 20000 in
theorem gX4_advise_X4_isIn : GoodIn wsX4_advise (va_wsS RX4 32 yX4_isIn wsX4_isIn) := goodIn_app (goodIn_of _ (by decide +kernel)) ggX4_advise_X4_isIn
set_option maxRecDepth 20000 in
theorem ggX4_advise_X4_kept : GoodIn wsX4_advise wsX4_kept := goodIn_r _ [19, 20, 21, 22, 23, 24, 25, 26, 27, 2, 82, 83, 84, 85, 86, 87, 88, 89] (by decide +kernel) (by decide +kernel)
set_option maxRecDepth 20000 in
theorem gX4_advise_X4_kept : GoodIn wsX4_advise (wsV RX4 114 RX4 yX4_kept wsX4_kept) := goodIn_app (goodIn_of _ (by decide +kernel)) ggX4_advise_X4_kept
set_option maxRecDepth 20000 in
theorem ggX4_advise_X4_put : GoodIn wsX4_advise wsX4_put := goodIn_r _ [31, 27, 82, 83, 84, 85, 86, 87, 88, 89] (by decide +kernel) (by decide +kernel)
set_option maxRecDepth 20000 in
theorem gX4_advise_X4_put : GoodIn wsX4_advise (wsV RX4 70 RX4 yX4_put wsX4_put) := goodIn_app (goodIn_of _ (by decide +kernel)) ggX4_advise_X4_put
set_option maxRecDepth 20000 in
theorem ggX4_advise_X4_hoursOn : GoodIn wsX4_advise wsX4_hoursOn := goodIn_r _ [35, 36, 37, 38, 6, 39, 2, 40, 8, 41, 42, 43, 44, 45, 46, 47, 48, 49, 50, 51, 52, 53, 54, 55, 56, 21, 57, 58, 59, 60, 61, 62, 63, 64, 65, 66, 67, 68, 27, 28, 29, 30, 31, 69, 70, 71, 72, 73, 82, 83, 84, 85, 86, 87, 88, 89] (by decide +kernel) (by decide +kernel)
set_option maxRecDepth 20000 in
theorem gX4_advise_X4_hoursOn : GoodIn wsX4_advise (wsV RX4 106 RX4 yX4_hoursOn wsX4_hoursOn) := goodIn_app (goodIn_of _ (by decide +kernel)) ggX4_advise_X4_hoursOn
set_option maxRecDepth 20000 in
theorem ggX4_advise_X4_bringBack : GoodIn wsX4_advise wsX4_bringBack := goodIn_r _ [77, 21, 78, 79, 80, 81, 27, 2, 82, 83, 84, 85, 86, 87, 88, 89] (by decide +kernel) (by decide +kernel)
set_option maxRecDepth 20000 in
theorem gX4_advise_X4_bringBack : GoodIn wsX4_advise (wsV RX4 118 RX4 yX4_bringBack wsX4_bringBack) := goodIn_app (goodIn_of _ (by decide +kernel)) ggX4_advise_X4_bringBack
theorem dX4_advise_0 : decode cX4_advise 0 = .ok (.aload_n 0, 1) := by decide +kernel
theorem dX4_advise_1 : decode cX4_advise 1 = .ok (.iconst 0, 1) := by decide +kernel
theorem dX4_advise_2 : decode cX4_advise 2 = .ok (.putfield 26, 3) := by decide +kernel
theorem dX4_advise_5 : decode cX4_advise 5 = .ok (.aload_n 0, 1) := by decide +kernel
theorem dX4_advise_6 : decode cX4_advise 6 = .ok (.iload_n 1, 1) := by decide +kernel
theorem dX4_advise_7 : decode cX4_advise 7 = .ok (.invokevirtual 67, 3) := by decide +kernel
theorem dX4_advise_10 : decode cX4_advise 10 = .ok (.ifCond .ne 9, 3) := by decide +kernel
theorem dX4_advise_13 : decode cX4_advise 13 = .ok (.aload_n 0, 1) := by decide +kernel
theorem dX4_advise_14 : decode cX4_advise 14 = .ok (.iconst 1, 1) := by decide +kernel
theorem dX4_advise_15 : decode cX4_advise 15 = .ok (.invokevirtual 39, 3) := by decide +kernel
theorem dX4_advise_18 : decode cX4_advise 18 = .ok (.ireturn, 1) := by decide +kernel
theorem dX4_advise_19 : decode cX4_advise 19 = .ok (.iload_n 2, 1) := by decide +kernel
theorem dX4_advise_20 : decode cX4_advise 20 = .ok (.iconst 1, 1) := by decide +kernel
theorem dX4_advise_21 : decode cX4_advise 21 = .ok (.bipush 96, 2) := by decide +kernel
theorem dX4_advise_23 : decode cX4_advise 23 = .ok (.invokestatic 32, 3) := by decide +kernel
theorem dX4_advise_26 : decode cX4_advise 26 = .ok (.ifCond .ne 9, 3) := by decide +kernel
theorem dX4_advise_29 : decode cX4_advise 29 = .ok (.aload_n 0, 1) := by decide +kernel
theorem dX4_advise_30 : decode cX4_advise 30 = .ok (.iconst 2, 1) := by decide +kernel
theorem dX4_advise_31 : decode cX4_advise 31 = .ok (.invokevirtual 39, 3) := by decide +kernel
theorem dX4_advise_34 : decode cX4_advise 34 = .ok (.ireturn, 1) := by decide +kernel
theorem dX4_advise_35 : decode cX4_advise 35 = .ok (.aload_n 0, 1) := by decide +kernel
theorem dX4_advise_36 : decode cX4_advise 36 = .ok (.invokevirtual 114, 3) := by decide +kernel
theorem dX4_advise_39 : decode cX4_advise 39 = .ok (.astore_n 3, 1) := by decide +kernel
theorem dX4_advise_40 : decode cX4_advise 40 = .ok (.iconst (-1), 1) := by decide +kernel
theorem dX4_advise_41 : decode cX4_advise 41 = .ok (.istore 4, 2) := by decide +kernel
theorem dX4_advise_43 : decode cX4_advise 43 = .ok (.iconst 0, 1) := by decide +kernel
theorem dX4_advise_44 : decode cX4_advise 44 = .ok (.istore 5, 2) := by decide +kernel
theorem dX4_advise_46 : decode cX4_advise 46 = .ok (.iconst 0, 1) := by decide +kernel
theorem dX4_advise_47 : decode cX4_advise 47 = .ok (.istore 6, 2) := by decide +kernel
theorem dX4_advise_49 : decode cX4_advise 49 = .ok (.iload 6, 2) := by decide +kernel
theorem dX4_advise_51 : decode cX4_advise 51 = .ok (.bipush 90, 2) := by decide +kernel
theorem dX4_advise_53 : decode cX4_advise 53 = .ok (.if_icmp .gt 59, 3) := by decide +kernel
theorem dX4_advise_56 : decode cX4_advise 56 = .ok (.aload_n 0, 1) := by decide +kernel
theorem dX4_advise_57 : decode cX4_advise 57 = .ok (.iload_n 1, 1) := by decide +kernel
theorem dX4_advise_58 : decode cX4_advise 58 = .ok (.iconst 2, 1) := by decide +kernel
theorem dX4_advise_59 : decode cX4_advise 59 = .ok (.iload 6, 2) := by decide +kernel
theorem dX4_advise_61 : decode cX4_advise 61 = .ok (.invokevirtual 70, 3) := by decide +kernel
theorem dX4_advise_64 : decode cX4_advise 64 = .ok (.aload_n 0, 1) := by decide +kernel
theorem dX4_advise_65 : decode cX4_advise 65 = .ok (.iload_n 2, 1) := by decide +kernel
theorem dX4_advise_66 : decode cX4_advise 66 = .ok (.invokevirtual 106, 3) := by decide +kernel
theorem dX4_advise_69 : decode cX4_advise 69 = .ok (.aload_n 0, 1) := by decide +kernel
theorem dX4_advise_70 : decode cX4_advise 70 = .ok (.getfield 23, 3) := by decide +kernel
theorem dX4_advise_73 : decode cX4_advise 73 = .ok (.iconst 3, 1) := by decide +kernel
theorem dX4_advise_74 : decode cX4_advise 74 = .ok (.iaload, 1) := by decide +kernel
theorem dX4_advise_75 : decode cX4_advise 75 = .ok (.istore 7, 2) := by decide +kernel
theorem dX4_advise_77 : decode cX4_advise 77 = .ok (.aload_n 0, 1) := by decide +kernel
theorem dX4_advise_78 : decode cX4_advise 78 = .ok (.aload_n 3, 1) := by decide +kernel
theorem dX4_advise_79 : decode cX4_advise 79 = .ok (.invokevirtual 118, 3) := by decide +kernel
theorem dX4_advise_82 : decode cX4_advise 82 = .ok (.iload 4, 2) := by decide +kernel
theorem dX4_advise_84 : decode cX4_advise 84 = .ok (.iconst (-1), 1) := by decide +kernel
theorem dX4_advise_85 : decode cX4_advise 85 = .ok (.if_icmp .eq 13, 3) := by decide +kernel
theorem dX4_advise_88 : decode cX4_advise 88 = .ok (.iload 7, 2) := by decide +kernel
theorem dX4_advise_90 : decode cX4_advise 90 = .ok (.iload 5, 2) := by decide +kernel
theorem dX4_advise_92 : decode cX4_advise 92 = .ok (.if_icmp .lt 6, 3) := by decide +kernel
theorem dX4_advise_95 : decode cX4_advise 95 = .ok (.goto 11, 3) := by decide +kernel
theorem dX4_advise_98 : decode cX4_advise 98 = .ok (.iload 6, 2) := by decide +kernel
theorem dX4_advise_100 : decode cX4_advise 100 = .ok (.istore 4, 2) := by decide +kernel
theorem dX4_advise_102 : decode cX4_advise 102 = .ok (.iload 7, 2) := by decide +kernel
theorem dX4_advise_104 : decode cX4_advise 104 = .ok (.istore 5, 2) := by decide +kernel
theorem dX4_advise_106 : decode cX4_advise 106 = .ok (.iinc 6 10, 3) := by decide +kernel
theorem dX4_advise_109 : decode cX4_advise 109 = .ok (.goto (-60), 3) := by decide +kernel
theorem dX4_advise_112 : decode cX4_advise 112 = .ok (.iload 4, 2) := by decide +kernel
theorem dX4_advise_114 : decode cX4_advise 114 = .ok (.ireturn, 1) := by decide +kernel
theorem dX4_share_0 : decode cX4_share 0 = .ok (.aload_n 0, 1) := by decide +kernel
theorem dX4_share_1 : decode cX4_share 1 = .ok (.iconst 0, 1) := by decide +kernel
theorem dX4_share_2 : decode cX4_share 2 = .ok (.putfield 26, 3) := by decide +kernel
theorem dX4_share_5 : decode cX4_share 5 = .ok (.aload_n 0, 1) := by decide +kernel
theorem dX4_share_6 : decode cX4_share 6 = .ok (.getfield 23, 3) := by decide +kernel
theorem dX4_share_9 : decode cX4_share 9 = .ok (.iconst 1, 1) := by decide +kernel
theorem dX4_share_10 : decode cX4_share 10 = .ok (.iaload, 1) := by decide +kernel
theorem dX4_share_11 : decode cX4_share 11 = .ok (.ifCond .ne 7, 3) := by decide +kernel
theorem dX4_share_14 : decode cX4_share 14 = .ok (.dconst 0, 1) := by decide +kernel
theorem dX4_share_15 : decode cX4_share 15 = .ok (.goto 18, 3) := by decide +kernel
theorem dX4_share_18 : decode cX4_share 18 = .ok (.aload_n 0, 1) := by decide +kernel
theorem dX4_share_19 : decode cX4_share 19 = .ok (.getfield 23, 3) := by decide +kernel
theorem dX4_share_22 : decode cX4_share 22 = .ok (.iconst 2, 1) := by decide +kernel
theorem dX4_share_23 : decode cX4_share 23 = .ok (.iaload, 1) := by decide +kernel
theorem dX4_share_24 : decode cX4_share 24 = .ok (.i2d, 1) := by decide +kernel
theorem dX4_share_25 : decode cX4_share 25 = .ok (.aload_n 0, 1) := by decide +kernel
theorem dX4_share_26 : decode cX4_share 26 = .ok (.getfield 23, 3) := by decide +kernel
theorem dX4_share_29 : decode cX4_share 29 = .ok (.iconst 1, 1) := by decide +kernel
theorem dX4_share_30 : decode cX4_share 30 = .ok (.iaload, 1) := by decide +kernel
theorem dX4_share_31 : decode cX4_share 31 = .ok (.i2d, 1) := by decide +kernel
theorem dX4_share_32 : decode cX4_share 32 = .ok (.ddiv, 1) := by decide +kernel
theorem dX4_share_33 : decode cX4_share 33 = .ok (.dreturn, 1) := by decide +kernel
set_option maxRecDepth 20000 in
theorem ggX4_digest_X4_counted : GoodIn wsX4_digest wsX4_counted := goodIn_r _ [11, 12, 13, 14, 15, 16, 17, 10, 18, 5, 19, 20, 21, 22, 23, 24, 25, 26, 27, 6, 28, 29, 30, 31, 32, 37, 38, 39, 40, 41, 42, 43, 44] (by decide +kernel) (by decide +kernel)
set_option maxRecDepth 20000 in
theorem gX4_digest_X4_counted : GoodIn wsX4_digest (wsV RX4 87 RX4 yX4_counted wsX4_counted) := goodIn_app (goodIn_of _ (by decide +kernel)) ggX4_digest_X4_counted
set_option maxRecDepth 20000 in
theorem ggX4_digest_X4_storeTold : GoodIn wsX4_digest wsX4_storeTold := goodIn_r _ [36, 6, 19, 20, 21, 10, 22, 23, 28, 29, 30, 31, 32, 37, 38, 39, 40, 41, 42, 43, 44] (by decide +kernel) (by decide +kernel)
set_option maxRecDepth 20000 in
theorem gX4_digest_X4_storeTold : GoodIn wsX4_digest (wsV RX4 78 RX4 yX4_storeTold wsX4_storeTold) := goodIn_app (goodIn_of _ (by decide +kernel)) ggX4_digest_X4_storeTold
set_option maxRecDepth 20000 in
theorem ggX4_digest_X4_sh : GoodIn wsX4_digest wsX4_sh := goodIn_r _ [31, 32, 37, 38, 39, 40, 41, 42, 43, 44] (by decide +kernel) (by decide +kernel)
set_option maxRecDepth 20000 in
theorem gX4_digest_X4_sh : GoodIn wsX4_digest (wsV RX4 61 RX4 yX4_sh wsX4_sh) := goodIn_app (goodIn_of _ (by decide +kernel)) ggX4_digest_X4_sh
theorem dX4_digest_0 : decode cX4_digest 0 = .ok (.aload_n 0, 1) := by decide +kernel
theorem dX4_digest_1 : decode cX4_digest 1 = .ok (.iconst 0, 1) := by decide +kernel
theorem dX4_digest_2 : decode cX4_digest 2 = .ok (.putfield 26, 3) := by decide +kernel
theorem dX4_digest_5 : decode cX4_digest 5 = .ok (.ldc2_w 122, 3) := by decide +kernel
theorem dX4_digest_8 : decode cX4_digest 8 = .ok (.lstore_n 1, 1) := by decide +kernel
theorem dX4_digest_9 : decode cX4_digest 9 = .ok (.iconst 0, 1) := by decide +kernel
theorem dX4_digest_10 : decode cX4_digest 10 = .ok (.istore_n 3, 1) := by decide +kernel
theorem dX4_digest_11 : decode cX4_digest 11 = .ok (.iload_n 3, 1) := by decide +kernel
theorem dX4_digest_12 : decode cX4_digest 12 = .ok (.bipush 10, 2) := by decide +kernel
theorem dX4_digest_14 : decode cX4_digest 14 = .ok (.if_icmp .ge 22, 3) := by decide +kernel
theorem dX4_digest_17 : decode cX4_digest 17 = .ok (.lload_n 1, 1) := by decide +kernel
theorem dX4_digest_18 : decode cX4_digest 18 = .ok (.ldc2_w 124, 3) := by decide +kernel
theorem dX4_digest_21 : decode cX4_digest 21 = .ok (.lmul, 1) := by decide +kernel
theorem dX4_digest_22 : decode cX4_digest 22 = .ok (.aload_n 0, 1) := by decide +kernel
theorem dX4_digest_23 : decode cX4_digest 23 = .ok (.iload_n 3, 1) := by decide +kernel
theorem dX4_digest_24 : decode cX4_digest 24 = .ok (.invokevirtual 87, 3) := by decide +kernel
theorem dX4_digest_27 : decode cX4_digest 27 = .ok (.i2l, 1) := by decide +kernel
theorem dX4_digest_28 : decode cX4_digest 28 = .ok (.ladd, 1) := by decide +kernel
theorem dX4_digest_29 : decode cX4_digest 29 = .ok (.lstore_n 1, 1) := by decide +kernel
theorem dX4_digest_30 : decode cX4_digest 30 = .ok (.iinc 3 1, 3) := by decide +kernel
theorem dX4_digest_33 : decode cX4_digest 33 = .ok (.goto (-22), 3) := by decide +kernel
theorem dX4_digest_36 : decode cX4_digest 36 = .ok (.aload_n 0, 1) := by decide +kernel
theorem dX4_digest_37 : decode cX4_digest 37 = .ok (.getfield 13, 3) := by decide +kernel
theorem dX4_digest_40 : decode cX4_digest 40 = .ok (.astore_n 3, 1) := by decide +kernel
theorem dX4_digest_41 : decode cX4_digest 41 = .ok (.aload_n 3, 1) := by decide +kernel
theorem dX4_digest_42 : decode cX4_digest 42 = .ok (.arraylength, 1) := by decide +kernel
theorem dX4_digest_43 : decode cX4_digest 43 = .ok (.istore 4, 2) := by decide +kernel
theorem dX4_digest_45 : decode cX4_digest 45 = .ok (.iconst 0, 1) := by decide +kernel
theorem dX4_digest_46 : decode cX4_digest 46 = .ok (.istore 5, 2) := by decide +kernel
theorem dX4_digest_48 : decode cX4_digest 48 = .ok (.iload 5, 2) := by decide +kernel
theorem dX4_digest_50 : decode cX4_digest 50 = .ok (.iload 4, 2) := by decide +kernel
theorem dX4_digest_52 : decode cX4_digest 52 = .ok (.if_icmp .ge 25, 3) := by decide +kernel
theorem dX4_digest_55 : decode cX4_digest 55 = .ok (.aload_n 3, 1) := by decide +kernel
theorem dX4_digest_56 : decode cX4_digest 56 = .ok (.iload 5, 2) := by decide +kernel
theorem dX4_digest_58 : decode cX4_digest 58 = .ok (.iaload, 1) := by decide +kernel
theorem dX4_digest_59 : decode cX4_digest 59 = .ok (.istore 6, 2) := by decide +kernel
theorem dX4_digest_61 : decode cX4_digest 61 = .ok (.lload_n 1, 1) := by decide +kernel
theorem dX4_digest_62 : decode cX4_digest 62 = .ok (.ldc2_w 124, 3) := by decide +kernel
theorem dX4_digest_65 : decode cX4_digest 65 = .ok (.lmul, 1) := by decide +kernel
theorem dX4_digest_66 : decode cX4_digest 66 = .ok (.iload 6, 2) := by decide +kernel
theorem dX4_digest_68 : decode cX4_digest 68 = .ok (.i2l, 1) := by decide +kernel
theorem dX4_digest_69 : decode cX4_digest 69 = .ok (.ladd, 1) := by decide +kernel
theorem dX4_digest_70 : decode cX4_digest 70 = .ok (.lstore_n 1, 1) := by decide +kernel
theorem dX4_digest_71 : decode cX4_digest 71 = .ok (.iinc 5 1, 3) := by decide +kernel
theorem dX4_digest_74 : decode cX4_digest 74 = .ok (.goto (-26), 3) := by decide +kernel
theorem dX4_digest_77 : decode cX4_digest 77 = .ok (.iconst 0, 1) := by decide +kernel
theorem dX4_digest_78 : decode cX4_digest 78 = .ok (.istore_n 3, 1) := by decide +kernel
theorem dX4_digest_79 : decode cX4_digest 79 = .ok (.iload_n 3, 1) := by decide +kernel
theorem dX4_digest_80 : decode cX4_digest 80 = .ok (.aload_n 0, 1) := by decide +kernel
theorem dX4_digest_81 : decode cX4_digest 81 = .ok (.getfield 29, 3) := by decide +kernel
theorem dX4_digest_84 : decode cX4_digest 84 = .ok (.if_icmp .ge 39, 3) := by decide +kernel
theorem dX4_digest_87 : decode cX4_digest 87 = .ok (.iconst 0, 1) := by decide +kernel
theorem dX4_digest_88 : decode cX4_digest 88 = .ok (.istore 4, 2) := by decide +kernel
theorem dX4_digest_90 : decode cX4_digest 90 = .ok (.iload 4, 2) := by decide +kernel
theorem dX4_digest_92 : decode cX4_digest 92 = .ok (.iconst 4, 1) := by decide +kernel
theorem dX4_digest_93 : decode cX4_digest 93 = .ok (.if_icmp .ge 24, 3) := by decide +kernel
theorem dX4_digest_96 : decode cX4_digest 96 = .ok (.lload_n 1, 1) := by decide +kernel
theorem dX4_digest_97 : decode cX4_digest 97 = .ok (.ldc2_w 124, 3) := by decide +kernel
theorem dX4_digest_100 : decode cX4_digest 100 = .ok (.lmul, 1) := by decide +kernel
theorem dX4_digest_101 : decode cX4_digest 101 = .ok (.aload_n 0, 1) := by decide +kernel
theorem dX4_digest_102 : decode cX4_digest 102 = .ok (.iload_n 3, 1) := by decide +kernel
theorem dX4_digest_103 : decode cX4_digest 103 = .ok (.iload 4, 2) := by decide +kernel
theorem dX4_digest_105 : decode cX4_digest 105 = .ok (.invokevirtual 78, 3) := by decide +kernel
theorem dX4_digest_108 : decode cX4_digest 108 = .ok (.i2l, 1) := by decide +kernel
theorem dX4_digest_109 : decode cX4_digest 109 = .ok (.ladd, 1) := by decide +kernel
theorem dX4_digest_110 : decode cX4_digest 110 = .ok (.lstore_n 1, 1) := by decide +kernel
theorem dX4_digest_111 : decode cX4_digest 111 = .ok (.iinc 4 1, 3) := by decide +kernel
theorem dX4_digest_114 : decode cX4_digest 114 = .ok (.goto (-24), 3) := by decide +kernel
theorem dX4_digest_117 : decode cX4_digest 117 = .ok (.iinc 3 1, 3) := by decide +kernel
theorem dX4_digest_120 : decode cX4_digest 120 = .ok (.goto (-41), 3) := by decide +kernel
theorem dX4_digest_123 : decode cX4_digest 123 = .ok (.iconst 0, 1) := by decide +kernel
theorem dX4_digest_124 : decode cX4_digest 124 = .ok (.istore_n 3, 1) := by decide +kernel
theorem dX4_digest_125 : decode cX4_digest 125 = .ok (.iload_n 3, 1) := by decide +kernel
theorem dX4_digest_126 : decode cX4_digest 126 = .ok (.aload_n 0, 1) := by decide +kernel
theorem dX4_digest_127 : decode cX4_digest 127 = .ok (.getfield 36, 3) := by decide +kernel
theorem dX4_digest_130 : decode cX4_digest 130 = .ok (.if_icmp .ge 40, 3) := by decide +kernel
theorem dX4_digest_133 : decode cX4_digest 133 = .ok (.iconst 0, 1) := by decide +kernel
theorem dX4_digest_134 : decode cX4_digest 134 = .ok (.istore 4, 2) := by decide +kernel
theorem dX4_digest_136 : decode cX4_digest 136 = .ok (.iload 4, 2) := by decide +kernel
theorem dX4_digest_138 : decode cX4_digest 138 = .ok (.bipush 8, 2) := by decide +kernel
theorem dX4_digest_140 : decode cX4_digest 140 = .ok (.if_icmp .ge 24, 3) := by decide +kernel
theorem dX4_digest_143 : decode cX4_digest 143 = .ok (.lload_n 1, 1) := by decide +kernel
theorem dX4_digest_144 : decode cX4_digest 144 = .ok (.ldc2_w 124, 3) := by decide +kernel
theorem dX4_digest_147 : decode cX4_digest 147 = .ok (.lmul, 1) := by decide +kernel
theorem dX4_digest_148 : decode cX4_digest 148 = .ok (.aload_n 0, 1) := by decide +kernel
theorem dX4_digest_149 : decode cX4_digest 149 = .ok (.iload_n 3, 1) := by decide +kernel
theorem dX4_digest_150 : decode cX4_digest 150 = .ok (.iload 4, 2) := by decide +kernel
theorem dX4_digest_152 : decode cX4_digest 152 = .ok (.invokevirtual 61, 3) := by decide +kernel
theorem dX4_digest_155 : decode cX4_digest 155 = .ok (.i2l, 1) := by decide +kernel
theorem dX4_digest_156 : decode cX4_digest 156 = .ok (.ladd, 1) := by decide +kernel
theorem dX4_digest_157 : decode cX4_digest 157 = .ok (.lstore_n 1, 1) := by decide +kernel
theorem dX4_digest_158 : decode cX4_digest 158 = .ok (.iinc 4 1, 3) := by decide +kernel
theorem dX4_digest_161 : decode cX4_digest 161 = .ok (.goto (-25), 3) := by decide +kernel
theorem dX4_digest_164 : decode cX4_digest 164 = .ok (.iinc 3 1, 3) := by decide +kernel
theorem dX4_digest_167 : decode cX4_digest 167 = .ok (.goto (-42), 3) := by decide +kernel
theorem dX4_digest_170 : decode cX4_digest 170 = .ok (.lload_n 1, 1) := by decide +kernel
theorem dX4_digest_171 : decode cX4_digest 171 = .ok (.lreturn, 1) := by decide +kernel
